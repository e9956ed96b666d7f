/-! THE REFERENCE: grapple, cut, repair -/
section LV34
variable {l : Launch} {D : va_G} {cA : Nat → ClassId} {N0 : Nat} {h : AH} {u : Nat} {M : Mm}
set_option maxHeartbeats 4000000 in
set_option maxRecDepth 100000 in
theorem c_X10_grapple (hM : MAt h u M) {sn : Nat} (hn : sn ≤ 8) (hsn : M.2.1 10 = nI sn) {m : Nat} (hm : m ≤ 6) (hmu : M.1 3 = nI m) {x y : Int32} : Spec l D cA N0 m_X10_grapple 3 0 0 [.ref u, .int x, .int y] h (fun r h' => r = some (.int (zw_grap M sn m x y).1) ∧ ∃ M2, h' = mput h u M2 ∧ Ms (zw_grap M sn m x y).2 M2) := by
  refine Spec.of (L := [some (.ref u), some (.int x), some (.int y), none]) (by decide) rfl (Nat.le_of_ble_eq_true rfl) ?_
  have q0 : h = mput h u M := (mput_self hM).symm
  have mo0 := hM.o
  have ms0 := hM.s
  have mb0 := hM.b
  have mt0 := hM.t
  have mn0 := hM.n
  have mc0 := hM.c
  refine R_aload_n0 (pc := 0) dX10_grapple_0 ?_
  refine R_iload_n1 (pc := 1) dX10_grapple_1 ?_
  refine R_iload_n2 (pc := 2) dX10_grapple_2 ?_
  refine R_callV2 (pc := 3) (T := TX10) cal_X10_areTwo kw985 kw987 kw37 dX10_grapple_3 (c_X10_areTwo hM hn hsn) (by decide) (Nat.le_of_ble_eq_true rfl) (ci := 8) rfl (by assumption) ?_
  rintro _ _ ⟨rfl, rfl⟩
  refine R_ifb_ne (pc := 6) 11 dX10_grapple_6 (by decide) (fun c_6 => ?_) (fun c_6 => ?_)
  · skip
    obtain ⟨i, hsi, ei⟩ := i_nI c_6.1.1 c_6.1.2 (by omega)
    obtain ⟨j, hsj, ej⟩ := i_nI c_6.2.1.1 c_6.2.1.2 (by omega)
    have hi : i < 8 := by omega
    have hj : j < 8 := by omega
    have hci : (nI i).toNatClampNeg = i := nI_clamp (by omega)
    have hcj : (nI j).toNatClampNeg = j := nI_clamp (by omega)
    subst ei
    subst ej
    refine R_aload_n0 (pc := 11) dX10_grapple_11 ?_
    refine G_X10_7 (pc := 12) dX10_grapple_12 (by assumption) ?_
    refine R_iconst (pc := 15) (v := 1) dX10_grapple_15 (by decide) ?_
    refine R_iald (pc := 16) dX10_grapple_16 (by assumption) (in_n (i := 1) (by decide) (by decide)) ?_
    rw [show ((1 : Int32)).toNatClampNeg = 1 from rfl]
    refine R_iconst (pc := 17) (v := 1) dX10_grapple_17 (by decide) ?_
    refine R_icmp_ne (pc := 18) 61 dX10_grapple_18 (by decide) (fun c_18 => ?_) (fun c_18 => ?_)
    · skip
      refine R_iconst (pc := 61) (v := 0) dX10_grapple_61 (by decide) ?_
      refine R_istore_n3 (pc := 62) dX10_grapple_62 rfl (by decide) ?_
      refine R_iload_n3 (pc := 63) dX10_grapple_63 ?_
      refine R_if_eq (pc := 64) 104 dX10_grapple_64 (by decide) (fun _ => ?_) (fun c0 => False.elim (by revert c0; decide))
      refine R_iconst (pc := 104) (v := 0) dX10_grapple_104 (by decide) ?_
      refine R_istore_n3 (pc := 105) dX10_grapple_105 rfl (by decide) ?_
      refine R_iload_n3 (pc := 106) dX10_grapple_106 ?_
      refine R_if_eq (pc := 107) 127 dX10_grapple_107 (by decide) (fun _ => ?_) (fun c0 => False.elim (by revert c0; decide))
      refine R_bipush (pc := 127) (v := (-2)) dX10_grapple_127 (by decide) ?_
      refine R_iret (pc := 129) rfl rfl dX10_grapple_129 ?_
      exact ⟨by rw [zw_grap, if_pos c_6, hci, hcj, zw_grap2, if_neg (fun z => c_18 z.1.1)], _, q0, by rw [zw_grap, if_pos c_6, hci, hcj, zw_grap2, if_neg (fun z => c_18 z.1.1)]; exact Ms.rf M⟩
    · skip
      refine R_aload_n0 (pc := 21) dX10_grapple_21 ?_
      refine R_iload_n1 (pc := 22) dX10_grapple_22 ?_
      refine R_callV1 (pc := 23) (T := TX10) cal_X10_floats kw962 kw964 kw33 dX10_grapple_23 (c_X10_floats hM (by assumption)) (by decide) (Nat.le_of_ble_eq_true rfl) (ci := 8) rfl (by assumption) ?_
      rintro _ _ ⟨rfl, rfl⟩
      refine R_ifb_eq (pc := 26) 61 dX10_grapple_26 (by decide) (fun c_26 => ?_) (fun c_26 => ?_)
      · skip
        refine R_iconst (pc := 61) (v := 0) dX10_grapple_61 (by decide) ?_
        refine R_istore_n3 (pc := 62) dX10_grapple_62 rfl (by decide) ?_
        refine R_iload_n3 (pc := 63) dX10_grapple_63 ?_
        refine R_if_eq (pc := 64) 104 dX10_grapple_64 (by decide) (fun _ => ?_) (fun c0 => False.elim (by revert c0; decide))
        refine R_iconst (pc := 104) (v := 0) dX10_grapple_104 (by decide) ?_
        refine R_istore_n3 (pc := 105) dX10_grapple_105 rfl (by decide) ?_
        refine R_iload_n3 (pc := 106) dX10_grapple_106 ?_
        refine R_if_eq (pc := 107) 127 dX10_grapple_107 (by decide) (fun _ => ?_) (fun c0 => False.elim (by revert c0; decide))
        refine R_bipush (pc := 127) (v := (-2)) dX10_grapple_127 (by decide) ?_
        refine R_iret (pc := 129) rfl rfl dX10_grapple_129 ?_
        exact ⟨by rw [zw_grap, if_pos c_6, hci, hcj, zw_grap2, if_neg (fun z => c_26 z.1.2.1)], _, q0, by rw [zw_grap, if_pos c_6, hci, hcj, zw_grap2, if_neg (fun z => c_26 z.1.2.1)]; exact Ms.rf M⟩
      · skip
        refine R_aload_n0 (pc := 29) dX10_grapple_29 ?_
        refine R_iload_n2 (pc := 30) dX10_grapple_30 ?_
        refine R_callV1 (pc := 31) (T := TX10) cal_X10_floats kw962 kw964 kw33 dX10_grapple_31 (c_X10_floats hM (by assumption)) (by decide) (Nat.le_of_ble_eq_true rfl) (ci := 8) rfl (by assumption) ?_
        rintro _ _ ⟨rfl, rfl⟩
        refine R_ifb_eq (pc := 34) 61 dX10_grapple_34 (by decide) (fun c_34 => ?_) (fun c_34 => ?_)
        · skip
          refine R_iconst (pc := 61) (v := 0) dX10_grapple_61 (by decide) ?_
          refine R_istore_n3 (pc := 62) dX10_grapple_62 rfl (by decide) ?_
          refine R_iload_n3 (pc := 63) dX10_grapple_63 ?_
          refine R_if_eq (pc := 64) 104 dX10_grapple_64 (by decide) (fun _ => ?_) (fun c0 => False.elim (by revert c0; decide))
          refine R_iconst (pc := 104) (v := 0) dX10_grapple_104 (by decide) ?_
          refine R_istore_n3 (pc := 105) dX10_grapple_105 rfl (by decide) ?_
          refine R_iload_n3 (pc := 106) dX10_grapple_106 ?_
          refine R_if_eq (pc := 107) 127 dX10_grapple_107 (by decide) (fun _ => ?_) (fun c0 => False.elim (by revert c0; decide))
          refine R_bipush (pc := 127) (v := (-2)) dX10_grapple_127 (by decide) ?_
          refine R_iret (pc := 129) rfl rfl dX10_grapple_129 ?_
          exact ⟨by rw [zw_grap, if_pos c_6, hci, hcj, zw_grap2, if_neg (fun z => c_34 z.1.2.2.1)], _, q0, by rw [zw_grap, if_pos c_6, hci, hcj, zw_grap2, if_neg (fun z => c_34 z.1.2.2.1)]; exact Ms.rf M⟩
        · skip
          refine R_aload_n0 (pc := 37) dX10_grapple_37 ?_
          refine R_iload_n1 (pc := 38) dX10_grapple_38 ?_
          refine R_bipush (pc := 39) (v := 7) dX10_grapple_39 (by decide) ?_
          refine R_callV2 (pc := 41) (T := TX10) cal_X10_get kw899 kw901 kw25 dX10_grapple_41 (c_X10_get hM (by assumption) (k := 7) (by decide)) (by decide) (Nat.le_of_ble_eq_true rfl) (ci := 8) rfl (by assumption) ?_
          rintro _ _ ⟨rfl, rfl⟩
          refine R_if_ge (pc := 44) 61 dX10_grapple_44 (by decide) (fun c_44 => ?_) (fun c_44 => ?_)
          · skip
            have d_44 := Int32.not_lt.mpr c_44
            refine R_iconst (pc := 61) (v := 0) dX10_grapple_61 (by decide) ?_
            refine R_istore_n3 (pc := 62) dX10_grapple_62 rfl (by decide) ?_
            refine R_iload_n3 (pc := 63) dX10_grapple_63 ?_
            refine R_if_eq (pc := 64) 104 dX10_grapple_64 (by decide) (fun _ => ?_) (fun c0 => False.elim (by revert c0; decide))
            refine R_iconst (pc := 104) (v := 0) dX10_grapple_104 (by decide) ?_
            refine R_istore_n3 (pc := 105) dX10_grapple_105 rfl (by decide) ?_
            refine R_iload_n3 (pc := 106) dX10_grapple_106 ?_
            refine R_if_eq (pc := 107) 127 dX10_grapple_107 (by decide) (fun _ => ?_) (fun c0 => False.elim (by revert c0; decide))
            refine R_bipush (pc := 127) (v := (-2)) dX10_grapple_127 (by decide) ?_
            refine R_iret (pc := 129) rfl rfl dX10_grapple_129 ?_
            exact ⟨by rw [zw_grap, if_pos c_6, hci, hcj, zw_grap2, if_neg (fun z => Int32.not_lt.mpr c_44 z.1.2.2.2.1)], _, q0, by rw [zw_grap, if_pos c_6, hci, hcj, zw_grap2, if_neg (fun z => Int32.not_lt.mpr c_44 z.1.2.2.2.1)]; exact Ms.rf M⟩
          · skip
            have d_44 := Int32.not_le.mp c_44
            have d_44 : gx M.2.1 i 7 < 0 := Int32.not_le.mp c_44
            refine R_aload_n0 (pc := 47) dX10_grapple_47 ?_
            refine R_iload_n2 (pc := 48) dX10_grapple_48 ?_
            refine R_bipush (pc := 49) (v := 7) dX10_grapple_49 (by decide) ?_
            refine R_callV2 (pc := 51) (T := TX10) cal_X10_get kw899 kw901 kw25 dX10_grapple_51 (c_X10_get hM (by assumption) (k := 7) (by decide)) (by decide) (Nat.le_of_ble_eq_true rfl) (ci := 8) rfl (by assumption) ?_
            rintro _ _ ⟨rfl, rfl⟩
            refine R_if_ge (pc := 54) 61 dX10_grapple_54 (by decide) (fun c_54 => ?_) (fun c_54 => ?_)
            · skip
              have d_54 := Int32.not_lt.mpr c_54
              refine R_iconst (pc := 61) (v := 0) dX10_grapple_61 (by decide) ?_
              refine R_istore_n3 (pc := 62) dX10_grapple_62 rfl (by decide) ?_
              refine R_iload_n3 (pc := 63) dX10_grapple_63 ?_
              refine R_if_eq (pc := 64) 104 dX10_grapple_64 (by decide) (fun _ => ?_) (fun c0 => False.elim (by revert c0; decide))
              refine R_iconst (pc := 104) (v := 0) dX10_grapple_104 (by decide) ?_
              refine R_istore_n3 (pc := 105) dX10_grapple_105 rfl (by decide) ?_
              refine R_iload_n3 (pc := 106) dX10_grapple_106 ?_
              refine R_if_eq (pc := 107) 127 dX10_grapple_107 (by decide) (fun _ => ?_) (fun c0 => False.elim (by revert c0; decide))
              refine R_bipush (pc := 127) (v := (-2)) dX10_grapple_127 (by decide) ?_
              refine R_iret (pc := 129) rfl rfl dX10_grapple_129 ?_
              exact ⟨by rw [zw_grap, if_pos c_6, hci, hcj, zw_grap2, if_neg (fun z => Int32.not_lt.mpr c_54 z.1.2.2.2.2)], _, q0, by rw [zw_grap, if_pos c_6, hci, hcj, zw_grap2, if_neg (fun z => Int32.not_lt.mpr c_54 z.1.2.2.2.2)]; exact Ms.rf M⟩
            · skip
              have d_54 := Int32.not_le.mp c_54
              have d_54 : gx M.2.1 j 7 < 0 := Int32.not_le.mp c_54
              refine R_iconst (pc := 57) (v := 1) dX10_grapple_57 (by decide) ?_
              refine R_goto (pc := 58) 62 dX10_grapple_58 (by decide) ?_
              refine R_istore_n3 (pc := 62) dX10_grapple_62 rfl (by decide) ?_
              refine R_iload_n3 (pc := 63) dX10_grapple_63 ?_
              refine R_if_eq (pc := 64) 104 dX10_grapple_64 (by decide) (fun c0 => False.elim (by revert c0; decide)) (fun _ => ?_)
              refine R_aload_n0 (pc := 67) dX10_grapple_67 ?_
              refine R_iload_n1 (pc := 68) dX10_grapple_68 ?_
              refine R_iconst (pc := 69) (v := 0) dX10_grapple_69 (by decide) ?_
              refine R_callV2 (pc := 70) (T := TX10) cal_X10_get kw899 kw901 kw25 dX10_grapple_70 (c_X10_get hM (by assumption) (k := 0) (by decide)) (by decide) (Nat.le_of_ble_eq_true rfl) (ci := 8) rfl (by assumption) ?_
              rintro _ _ ⟨rfl, rfl⟩
              refine R_aload_n0 (pc := 73) dX10_grapple_73 ?_
              refine R_iload_n2 (pc := 74) dX10_grapple_74 ?_
              refine R_iconst (pc := 75) (v := 0) dX10_grapple_75 (by decide) ?_
              refine R_callV2 (pc := 76) (T := TX10) cal_X10_get kw899 kw901 kw25 dX10_grapple_76 (c_X10_get hM (by assumption) (k := 0) (by decide)) (by decide) (Nat.le_of_ble_eq_true rfl) (ci := 8) rfl (by assumption) ?_
              rintro _ _ ⟨rfl, rfl⟩
              refine R_icmp_eq (pc := 79) 104 dX10_grapple_79 (by decide) (fun c_79 => ?_) (fun c_79 => ?_)
              · skip
                refine R_iconst (pc := 104) (v := 0) dX10_grapple_104 (by decide) ?_
                refine R_istore_n3 (pc := 105) dX10_grapple_105 rfl (by decide) ?_
                refine R_iload_n3 (pc := 106) dX10_grapple_106 ?_
                refine R_if_eq (pc := 107) 127 dX10_grapple_107 (by decide) (fun _ => ?_) (fun c0 => False.elim (by revert c0; decide))
                refine R_bipush (pc := 127) (v := (-2)) dX10_grapple_127 (by decide) ?_
                refine R_iret (pc := 129) rfl rfl dX10_grapple_129 ?_
                exact ⟨by rw [zw_grap, if_pos c_6, hci, hcj, zw_grap2, if_neg (fun z => z.2.1 c_79)], _, q0, by rw [zw_grap, if_pos c_6, hci, hcj, zw_grap2, if_neg (fun z => z.2.1 c_79)]; exact Ms.rf M⟩
              · skip
                refine R_aload_n0 (pc := 82) dX10_grapple_82 ?_
                refine R_iload_n1 (pc := 83) dX10_grapple_83 ?_
                refine R_iconst (pc := 84) (v := 1) dX10_grapple_84 (by decide) ?_
                refine R_callV2 (pc := 85) (T := TX10) cal_X10_get kw899 kw901 kw25 dX10_grapple_85 (c_X10_get hM (by assumption) (k := 1) (by decide)) (by decide) (Nat.le_of_ble_eq_true rfl) (ci := 8) rfl (by assumption) ?_
                rintro _ _ ⟨rfl, rfl⟩
                refine R_aload_n0 (pc := 88) dX10_grapple_88 ?_
                refine R_iload_n2 (pc := 89) dX10_grapple_89 ?_
                refine R_iconst (pc := 90) (v := 1) dX10_grapple_90 (by decide) ?_
                refine R_callV2 (pc := 91) (T := TX10) cal_X10_get kw899 kw901 kw25 dX10_grapple_91 (c_X10_get hM (by assumption) (k := 1) (by decide)) (by decide) (Nat.le_of_ble_eq_true rfl) (ci := 8) rfl (by assumption) ?_
                rintro _ _ ⟨rfl, rfl⟩
                refine R_callS2 (pc := 94) cal_X10_areBeside kw1017 kw1018 dX10_grapple_94 c_X10_areBeside (by decide) (Nat.le_of_ble_eq_true rfl) ?_
                rintro _ _ ⟨rfl, rfl⟩
                refine R_ifb_eq (pc := 97) 104 dX10_grapple_97 (by decide) (fun c_97 => ?_) (fun c_97 => ?_)
                · skip
                  refine R_iconst (pc := 104) (v := 0) dX10_grapple_104 (by decide) ?_
                  refine R_istore_n3 (pc := 105) dX10_grapple_105 rfl (by decide) ?_
                  refine R_iload_n3 (pc := 106) dX10_grapple_106 ?_
                  refine R_if_eq (pc := 107) 127 dX10_grapple_107 (by decide) (fun _ => ?_) (fun c0 => False.elim (by revert c0; decide))
                  refine R_bipush (pc := 127) (v := (-2)) dX10_grapple_127 (by decide) ?_
                  refine R_iret (pc := 129) rfl rfl dX10_grapple_129 ?_
                  exact ⟨by rw [zw_grap, if_pos c_6, hci, hcj, zw_grap2, if_neg (fun z => c_97 z.2.2.1)], _, q0, by rw [zw_grap, if_pos c_6, hci, hcj, zw_grap2, if_neg (fun z => c_97 z.2.2.1)]; exact Ms.rf M⟩
                · skip
                  refine R_iconst (pc := 100) (v := 1) dX10_grapple_100 (by decide) ?_
                  refine R_goto (pc := 101) 105 dX10_grapple_101 (by decide) ?_
                  refine R_istore_n3 (pc := 105) dX10_grapple_105 rfl (by decide) ?_
                  refine R_iload_n3 (pc := 106) dX10_grapple_106 ?_
                  refine R_if_eq (pc := 107) 127 dX10_grapple_107 (by decide) (fun c0 => False.elim (by revert c0; decide)) (fun _ => ?_)
                  refine R_iconst (pc := 110) (v := 2) dX10_grapple_110 (by decide) ?_
                  refine R_aload_n0 (pc := 111) dX10_grapple_111 ?_
                  refine R_iload_n1 (pc := 112) dX10_grapple_112 ?_
                  refine R_iconst (pc := 113) (v := 5) dX10_grapple_113 (by decide) ?_
                  refine R_callV2 (pc := 114) (T := TX10) cal_X10_get kw899 kw901 kw25 dX10_grapple_114 (c_X10_get hM (by assumption) (k := 5) (by decide)) (by decide) (Nat.le_of_ble_eq_true rfl) (ci := 8) rfl (by assumption) ?_
                  rintro _ _ ⟨rfl, rfl⟩
                  refine R_imul (pc := 117) dX10_grapple_117 ?_
                  refine R_aload_n0 (pc := 118) dX10_grapple_118 ?_
                  refine R_iload_n2 (pc := 119) dX10_grapple_119 ?_
                  refine R_iconst (pc := 120) (v := 5) dX10_grapple_120 (by decide) ?_
                  refine R_callV2 (pc := 121) (T := TX10) cal_X10_get kw899 kw901 kw25 dX10_grapple_121 (c_X10_get hM (by assumption) (k := 5) (by decide)) (by decide) (Nat.le_of_ble_eq_true rfl) (ci := 8) rfl (by assumption) ?_
                  rintro _ _ ⟨rfl, rfl⟩
                  refine R_icmp_ge (pc := 124) 130 dX10_grapple_124 (by decide) (fun c_124 => ?_) (fun c_124 => ?_)
                  · skip
                    have d_124 := Int32.not_lt.mpr c_124
                    refine R_aload_n0 (pc := 130) dX10_grapple_130 ?_
                    refine R_callV0 (pc := 131) (T := TX10) cal_X10_act kw903 kw905 kw26 dX10_grapple_131 (c_X10_act hM hm hmu) (by decide) (Nat.le_of_ble_eq_true rfl) (ci := 8) rfl (by assumption) ?_
                    rintro _ h131 ⟨rfl, e131⟩
                    obtain ⟨F2, b2, hact, hF2⟩ := z_act_form (M) m
                    rw [hact] at e131
                    have q131 : h131 = mput _ u (F2, M.2.1, b2, M.2.2.2) := mstep_M q0 e131
                    have hM131 := mAt q131
                    have mo131 := hM131.o
                    have ms131 := hM131.s
                    have mb131 := hM131.b
                    have mt131 := hM131.t
                    have mn131 := hM131.n
                    have mc131 := hM131.c
                    refine R_aload_n0 (pc := 134) dX10_grapple_134 ?_
                    refine R_iload_n1 (pc := 135) dX10_grapple_135 ?_
                    refine R_bipush (pc := 136) (v := 7) dX10_grapple_136 (by decide) ?_
                    refine R_iload_n2 (pc := 138) dX10_grapple_138 ?_
                    refine R_callV3 (pc := 139) (T := TX10) cal_X10_put kw930 kw932 kw30 dX10_grapple_139 (c_X10_put hM131 (by assumption) (k := 7) (by decide)) (by decide) (Nat.le_of_ble_eq_true rfl) (ci := 8) rfl (by assumption) ?_
                    rintro _ h1 ⟨rfl, e1⟩
                    have q1 := mstep_M q131 e1
                    have hM1 := mAt q1
                    have mo1 := hM1.o
                    have ms1 := hM1.s
                    have mb1 := hM1.b
                    have mt1 := hM1.t
                    have mn1 := hM1.n
                    have mc1 := hM1.c
                    refine R_aload_n0 (pc := 142) dX10_grapple_142 ?_
                    refine R_iload_n2 (pc := 143) dX10_grapple_143 ?_
                    refine R_bipush (pc := 144) (v := 7) dX10_grapple_144 (by decide) ?_
                    refine R_iload_n1 (pc := 146) dX10_grapple_146 ?_
                    refine R_callV3 (pc := 147) (T := TX10) cal_X10_put kw930 kw932 kw30 dX10_grapple_147 (c_X10_put hM1 (by assumption) (k := 7) (by decide)) (by decide) (Nat.le_of_ble_eq_true rfl) (ci := 8) rfl (by assumption) ?_
                    rintro _ h2 ⟨rfl, e2⟩
                    have q2 := mstep_M q1 e2
                    have hM2 := mAt q2
                    have mo2 := hM2.o
                    have ms2 := hM2.s
                    have mb2 := hM2.b
                    have mt2 := hM2.t
                    have mn2 := hM2.n
                    have mc2 := hM2.c
                    refine R_aload_n0 (pc := 150) dX10_grapple_150 ?_
                    refine R_iload_n1 (pc := 151) dX10_grapple_151 ?_
                    refine R_iconst (pc := 152) (v := 5) dX10_grapple_152 (by decide) ?_
                    refine R_callV2 (pc := 153) (T := TX10) cal_X10_get kw899 kw901 kw25 dX10_grapple_153 (c_X10_get hM2 (by assumption) (k := 5) (by decide)) (by decide) (Nat.le_of_ble_eq_true rfl) (ci := 8) rfl (by assumption) ?_
                    rintro _ _ ⟨rfl, rfl⟩
                    refine R_aload_n0 (pc := 156) dX10_grapple_156 ?_
                    refine R_iload_n2 (pc := 157) dX10_grapple_157 ?_
                    refine R_iconst (pc := 158) (v := 5) dX10_grapple_158 (by decide) ?_
                    refine R_callV2 (pc := 159) (T := TX10) cal_X10_get kw899 kw901 kw25 dX10_grapple_159 (c_X10_get hM2 (by assumption) (k := 5) (by decide)) (by decide) (Nat.le_of_ble_eq_true rfl) (ci := 8) rfl (by assumption) ?_
                    rintro _ _ ⟨rfl, rfl⟩
                    refine R_iadd (pc := 162) dX10_grapple_162 ?_
                    refine R_iret (pc := 163) rfl rfl dX10_grapple_163 ?_
                    refine ⟨?_, _, q2, ?_⟩
                    · rw [zw_grap, if_pos c_6, hci, hcj, zw_grap2, if_pos ⟨⟨c_18, c_26, c_34, d_44, d_54⟩, c_79, c_97, c_124⟩]
                      try rfl
                    · rw [zw_grap, if_pos c_6, hci, hcj, zw_grap2, if_pos ⟨⟨c_18, c_26, c_34, d_44, d_54⟩, c_79, c_97, c_124⟩]
                      exact Ms.fin (s := M.2.1) (Ms.rf M) hact _
                  · skip
                    have d_124 := Int32.not_le.mp c_124
                    refine R_bipush (pc := 127) (v := (-2)) dX10_grapple_127 (by decide) ?_
                    refine R_iret (pc := 129) rfl rfl dX10_grapple_129 ?_
                    exact ⟨by rw [zw_grap, if_pos c_6, hci, hcj, zw_grap2, if_neg (fun z => c_124 z.2.2.2)], _, q0, by rw [zw_grap, if_pos c_6, hci, hcj, zw_grap2, if_neg (fun z => c_124 z.2.2.2)]; exact Ms.rf M⟩
  · skip
    refine R_iconst (pc := 9) (v := (-1)) dX10_grapple_9 (by decide) ?_
    refine R_iret (pc := 10) rfl rfl dX10_grapple_10 ?_
    exact ⟨by rw [zw_grap, if_neg (fun z => c_6 z)], _, q0, by rw [zw_grap, if_neg (fun z => c_6 z)]; exact Ms.rf M⟩

set_option maxHeartbeats 4000000 in
set_option maxRecDepth 100000 in
theorem c_X10_cut (hM : MAt h u M) {sn : Nat} (hn : sn ≤ 8) (hsn : M.2.1 10 = nI sn) {m : Nat} (hm : m ≤ 6) (hmu : M.1 3 = nI m) (hwk : Wok M.2.1) {x : Int32} : Spec l D cA N0 m_X10_cut 3 0 0 [.ref u, .int x] h (fun r h' => r = some (.int (zw_cut M sn m x).1) ∧ ∃ M2, h' = mput h u M2 ∧ Ms (zw_cut M sn m x).2 M2) := by
  refine Spec.of (L := [some (.ref u), some (.int x), none]) (by decide) rfl (Nat.le_of_ble_eq_true rfl) ?_
  have q0 : h = mput h u M := (mput_self hM).symm
  have mo0 := hM.o
  have ms0 := hM.s
  have mb0 := hM.b
  have mt0 := hM.t
  have mn0 := hM.n
  have mc0 := hM.c
  refine R_aload_n0 (pc := 0) dX10_cut_0 ?_
  refine R_iload_n1 (pc := 1) dX10_cut_1 ?_
  refine R_callV1 (pc := 2) (T := TX10) cal_X10_isShip kw958 kw960 kw32 dX10_cut_2 (c_X10_isShip hM hn hsn) (by decide) (Nat.le_of_ble_eq_true rfl) (ci := 8) rfl (by assumption) ?_
  rintro _ _ ⟨rfl, rfl⟩
  refine R_ifb_ne (pc := 5) 10 dX10_cut_5 (by decide) (fun c_5 => ?_) (fun c_5 => ?_)
  · skip
    obtain ⟨i, hsi, ei⟩ := i_nI c_5.1 c_5.2 (by omega)
    have hi : i < 8 := by omega
    have hci : (nI i).toNatClampNeg = i := nI_clamp (by omega)
    subst ei
    refine R_aload_n0 (pc := 10) dX10_cut_10 ?_
    refine R_iload_n1 (pc := 11) dX10_cut_11 ?_
    refine R_bipush (pc := 12) (v := 7) dX10_cut_12 (by decide) ?_
    refine R_callV2 (pc := 14) (T := TX10) cal_X10_get kw899 kw901 kw25 dX10_cut_14 (c_X10_get hM (by assumption) (k := 7) (by decide)) (by decide) (Nat.le_of_ble_eq_true rfl) (ci := 8) rfl (by assumption) ?_
    rintro _ _ ⟨rfl, rfl⟩
    refine R_istore_n2 (pc := 17) dX10_cut_17 rfl (by decide) ?_
    refine R_aload_n0 (pc := 18) dX10_cut_18 ?_
    refine G_X10_7 (pc := 19) dX10_cut_19 (by assumption) ?_
    refine R_iconst (pc := 22) (v := 1) dX10_cut_22 (by decide) ?_
    refine R_iald (pc := 23) dX10_cut_23 (by assumption) (in_n (i := 1) (by decide) (by decide)) ?_
    rw [show ((1 : Int32)).toNatClampNeg = 1 from rfl]
    refine R_if_eq (pc := 24) 46 dX10_cut_24 (by decide) (fun c_24 => ?_) (fun c_24 => ?_)
    · skip
      refine R_bipush (pc := 46) (v := (-2)) dX10_cut_46 (by decide) ?_
      refine R_iret (pc := 48) rfl rfl dX10_cut_48 ?_
      exact ⟨by rw [zw_cut, if_pos c_5, hci, zw_cut2, if_neg (fun z => z.1 c_24)], _, q0, by rw [zw_cut, if_pos c_5, hci, zw_cut2, if_neg (fun z => z.1 c_24)]; exact Ms.rf M⟩
    · skip
      refine R_iload_n2 (pc := 27) dX10_cut_27 ?_
      refine R_if_lt (pc := 28) 46 dX10_cut_28 (by decide) (fun c_28 => ?_) (fun c_28 => ?_)
      · skip
        have d_28 := Int32.not_le.mpr c_28
        refine R_bipush (pc := 46) (v := (-2)) dX10_cut_46 (by decide) ?_
        refine R_iret (pc := 48) rfl rfl dX10_cut_48 ?_
        exact ⟨by rw [zw_cut, if_pos c_5, hci, zw_cut2, if_neg (fun z => Int32.not_le.mpr c_28 z.2.1)], _, q0, by rw [zw_cut, if_pos c_5, hci, zw_cut2, if_neg (fun z => Int32.not_le.mpr c_28 z.2.1)]; exact Ms.rf M⟩
      · skip
        have d_28 := Int32.not_lt.mp c_28
        have d28 : 0 ≤ gx M.2.1 i 7 := Int32.not_lt.mp c_28
        have hoj := (hwk i hi).resolve_left c_28
        refine R_aload_n0 (pc := 31) dX10_cut_31 ?_
        refine R_iload_n1 (pc := 32) dX10_cut_32 ?_
        refine R_iconst (pc := 33) (v := 5) dX10_cut_33 (by decide) ?_
        refine R_callV2 (pc := 34) (T := TX10) cal_X10_get kw899 kw901 kw25 dX10_cut_34 (c_X10_get hM (by assumption) (k := 5) (by decide)) (by decide) (Nat.le_of_ble_eq_true rfl) (ci := 8) rfl (by assumption) ?_
        rintro _ _ ⟨rfl, rfl⟩
        refine R_aload_n0 (pc := 37) dX10_cut_37 ?_
        refine R_iload_n2 (pc := 38) dX10_cut_38 ?_
        refine R_iconst (pc := 39) (v := 5) dX10_cut_39 (by decide) ?_
        refine R_callV2 (pc := 40) (T := TX10) cal_X10_get kw899 kw901 kw25 dX10_cut_40 (c_X10_getI hM hoj (k := 5) (by decide)) (by decide) (Nat.le_of_ble_eq_true rfl) (ci := 8) rfl (by assumption) ?_
        rintro _ _ ⟨rfl, rfl⟩
        refine R_icmp_ge (pc := 43) 49 dX10_cut_43 (by decide) (fun c_43 => ?_) (fun c_43 => ?_)
        · skip
          have d_43 := Int32.not_lt.mpr c_43
          refine R_aload_n0 (pc := 49) dX10_cut_49 ?_
          refine R_callV0 (pc := 50) (T := TX10) cal_X10_act kw903 kw905 kw26 dX10_cut_50 (c_X10_act hM hm hmu) (by decide) (Nat.le_of_ble_eq_true rfl) (ci := 8) rfl (by assumption) ?_
          rintro _ h50 ⟨rfl, e50⟩
          obtain ⟨F2, b2, hact, hF2⟩ := z_act_form (M) m
          rw [hact] at e50
          have q50 : h50 = mput _ u (F2, M.2.1, b2, M.2.2.2) := mstep_M q0 e50
          have hM50 := mAt q50
          have mo50 := hM50.o
          have ms50 := hM50.s
          have mb50 := hM50.b
          have mt50 := hM50.t
          have mn50 := hM50.n
          have mc50 := hM50.c
          refine R_aload_n0 (pc := 53) dX10_cut_53 ?_
          refine R_iload_n1 (pc := 54) dX10_cut_54 ?_
          refine R_callV1 (pc := 55) (T := TX10) cal_X10_free kw1009 kw1011 kw43 dX10_cut_55 (c_X10_free hM50 hi (hwk i hi)) (by decide) (Nat.le_of_ble_eq_true rfl) (ci := 8) rfl (by assumption) ?_
          rintro _ h1 ⟨rfl, e1⟩
          have q1 := mstep_M q50 e1
          have hM1 := mAt q1
          have mo1 := hM1.o
          have ms1 := hM1.s
          have mb1 := hM1.b
          have mt1 := hM1.t
          have mn1 := hM1.n
          have mc1 := hM1.c
          refine R_iload_n2 (pc := 58) dX10_cut_58 ?_
          refine R_iret (pc := 59) rfl rfl dX10_cut_59 ?_
          refine ⟨?_, _, q1, ?_⟩
          · rw [zw_cut, if_pos c_5, hci, zw_cut2, if_pos ⟨c_24, d28, c_43⟩]
            try rfl
          · rw [zw_cut, if_pos c_5, hci, zw_cut2, if_pos ⟨c_24, d28, c_43⟩]
            exact Ms.fin (s := M.2.1) (Ms.rf M) hact _
        · skip
          have d_43 := Int32.not_le.mp c_43
          refine R_bipush (pc := 46) (v := (-2)) dX10_cut_46 (by decide) ?_
          refine R_iret (pc := 48) rfl rfl dX10_cut_48 ?_
          exact ⟨by rw [zw_cut, if_pos c_5, hci, zw_cut2, if_neg (fun z => c_43 z.2.2)], _, q0, by rw [zw_cut, if_pos c_5, hci, zw_cut2, if_neg (fun z => c_43 z.2.2)]; exact Ms.rf M⟩
  · skip
    refine R_iconst (pc := 8) (v := (-1)) dX10_cut_8 (by decide) ?_
    refine R_iret (pc := 9) rfl rfl dX10_cut_9 ?_
    exact ⟨by rw [zw_cut, if_neg (fun z => c_5 z)], _, q0, by rw [zw_cut, if_neg (fun z => c_5 z)]; exact Ms.rf M⟩

set_option maxHeartbeats 4000000 in
set_option maxRecDepth 100000 in
theorem c_X10_repair (hM : MAt h u M) {sn : Nat} (hn : sn ≤ 8) (hsn : M.2.1 10 = nI sn) {m : Nat} (hm : m ≤ 6) (hmu : M.1 3 = nI m) (hcp : ∀ e, e < sn → ∃ c, c < 2 ∧ gx M.2.1 e 0 = nI c) {x w : Int32} : Spec l D cA N0 m_X10_repair 3 0 0 [.ref u, .int x, .int w] h (fun r h' => r = some (.int (zw_rep M sn m x w).1) ∧ ∃ M2, h' = mput h u M2 ∧ Ms (zw_rep M sn m x w).2 M2) := by
  refine Spec.of (L := [some (.ref u), some (.int x), some (.int w), none, none, none, none]) (by decide) rfl (Nat.le_of_ble_eq_true rfl) ?_
  have q0 : h = mput h u M := (mput_self hM).symm
  have mo0 := hM.o
  have ms0 := hM.s
  have mb0 := hM.b
  have mt0 := hM.t
  have mn0 := hM.n
  have mc0 := hM.c
  refine R_aload_n0 (pc := 0) dX10_repair_0 ?_
  refine R_iload_n1 (pc := 1) dX10_repair_1 ?_
  refine R_callV1 (pc := 2) (T := TX10) cal_X10_isShip kw958 kw960 kw32 dX10_repair_2 (c_X10_isShip hM hn hsn) (by decide) (Nat.le_of_ble_eq_true rfl) (ci := 8) rfl (by assumption) ?_
  rintro _ _ ⟨rfl, rfl⟩
  refine R_ifb_eq (pc := 5) 20 dX10_repair_5 (by decide) (fun c_5 => ?_) (fun c_5 => ?_)
  · skip
    refine R_iconst (pc := 20) (v := (-1)) dX10_repair_20 (by decide) ?_
    refine R_iret (pc := 21) rfl rfl dX10_repair_21 ?_
    exact ⟨by rw [zw_rep, if_neg (fun z => c_5 z.1)], _, q0, by rw [zw_rep, if_neg (fun z => c_5 z.1)]; exact Ms.rf M⟩
  · skip
    obtain ⟨i, hsi, ei⟩ := i_nI c_5.1 c_5.2 (by omega)
    have hi : i < 8 := by omega
    have hci : (nI i).toNatClampNeg = i := nI_clamp (by omega)
    subst ei
    obtain ⟨cc, hcc, ecc⟩ := hcp i hsi
    have hccc : (gx M.2.1 i 0).toNatClampNeg = cc := by rw [ecc, nI_clamp (by omega)]
    refine R_iload_n2 (pc := 8) dX10_repair_8 ?_
    refine R_i2l (pc := 9) dX10_repair_9 ?_
    refine R_lconst (pc := 10) (v := 0) dX10_repair_10 (by decide) ?_
    refine R_ldc2 (pc := 11) dX10_repair_11 kw1028 ?_
    refine R_callS3 (pc := 14) cal_X10_in kw892 kw893 dX10_repair_14 (c_X10_in rfl (lo := 0) (by decide) (hi := 2) (by decide)) (by decide) (Nat.le_of_ble_eq_true rfl) ?_
    rintro _ _ ⟨rfl, rfl⟩
    refine R_ifb_ne (pc := 17) 22 dX10_repair_17 (by decide) (fun c_17 => ?_) (fun c_17 => ?_)
    · skip
      refine R_aload_n0 (pc := 22) dX10_repair_22 ?_
      refine G_X10_7 (pc := 23) dX10_repair_23 (by assumption) ?_
      refine R_iconst (pc := 26) (v := 1) dX10_repair_26 (by decide) ?_
      refine R_iald (pc := 27) dX10_repair_27 (by assumption) (in_n (i := 1) (by decide) (by decide)) ?_
      rw [show ((1 : Int32)).toNatClampNeg = 1 from rfl]
      refine R_iconst (pc := 28) (v := 1) dX10_repair_28 (by decide) ?_
      refine R_icmp_ne (pc := 29) 64 dX10_repair_29 (by decide) (fun c_29 => ?_) (fun c_29 => ?_)
      · skip
        refine R_iconst (pc := 64) (v := 0) dX10_repair_64 (by decide) ?_
        refine R_istore_n3 (pc := 65) dX10_repair_65 rfl (by decide) ?_
        refine R_iload_n3 (pc := 66) dX10_repair_66 ?_
        refine R_if_eq (pc := 67) 79 dX10_repair_67 (by decide) (fun _ => ?_) (fun c0 => False.elim (by revert c0; decide))
        refine R_bipush (pc := 79) (v := (-2)) dX10_repair_79 (by decide) ?_
        refine R_iret (pc := 81) rfl rfl dX10_repair_81 ?_
        exact ⟨by rw [zw_rep, if_pos ⟨c_5, c_17⟩, hci, hccc, zw_rep2, if_neg (fun z => c_29 z.1)], _, q0, by rw [zw_rep, if_pos ⟨c_5, c_17⟩, hci, hccc, zw_rep2, if_neg (fun z => c_29 z.1)]; exact Ms.rf M⟩
      · skip
        refine R_aload_n0 (pc := 32) dX10_repair_32 ?_
        refine R_iload_n1 (pc := 33) dX10_repair_33 ?_
        refine R_callV1 (pc := 34) (T := TX10) cal_X10_floats kw962 kw964 kw33 dX10_repair_34 (c_X10_floats hM (by assumption)) (by decide) (Nat.le_of_ble_eq_true rfl) (ci := 8) rfl (by assumption) ?_
        rintro _ _ ⟨rfl, rfl⟩
        refine R_ifb_eq (pc := 37) 64 dX10_repair_37 (by decide) (fun c_37 => ?_) (fun c_37 => ?_)
        · skip
          refine R_iconst (pc := 64) (v := 0) dX10_repair_64 (by decide) ?_
          refine R_istore_n3 (pc := 65) dX10_repair_65 rfl (by decide) ?_
          refine R_iload_n3 (pc := 66) dX10_repair_66 ?_
          refine R_if_eq (pc := 67) 79 dX10_repair_67 (by decide) (fun _ => ?_) (fun c0 => False.elim (by revert c0; decide))
          refine R_bipush (pc := 79) (v := (-2)) dX10_repair_79 (by decide) ?_
          refine R_iret (pc := 81) rfl rfl dX10_repair_81 ?_
          exact ⟨by rw [zw_rep, if_pos ⟨c_5, c_17⟩, hci, hccc, zw_rep2, if_neg (fun z => c_37 z.2.1)], _, q0, by rw [zw_rep, if_pos ⟨c_5, c_17⟩, hci, hccc, zw_rep2, if_neg (fun z => c_37 z.2.1)]; exact Ms.rf M⟩
        · skip
          refine R_aload_n0 (pc := 40) dX10_repair_40 ?_
          refine R_iload_n1 (pc := 41) dX10_repair_41 ?_
          refine R_bipush (pc := 42) (v := 7) dX10_repair_42 (by decide) ?_
          refine R_callV2 (pc := 44) (T := TX10) cal_X10_get kw899 kw901 kw25 dX10_repair_44 (c_X10_get hM (by assumption) (k := 7) (by decide)) (by decide) (Nat.le_of_ble_eq_true rfl) (ci := 8) rfl (by assumption) ?_
          rintro _ _ ⟨rfl, rfl⟩
          refine R_if_ge (pc := 47) 64 dX10_repair_47 (by decide) (fun c_47 => ?_) (fun c_47 => ?_)
          · skip
            have d_47 := Int32.not_lt.mpr c_47
            refine R_iconst (pc := 64) (v := 0) dX10_repair_64 (by decide) ?_
            refine R_istore_n3 (pc := 65) dX10_repair_65 rfl (by decide) ?_
            refine R_iload_n3 (pc := 66) dX10_repair_66 ?_
            refine R_if_eq (pc := 67) 79 dX10_repair_67 (by decide) (fun _ => ?_) (fun c0 => False.elim (by revert c0; decide))
            refine R_bipush (pc := 79) (v := (-2)) dX10_repair_79 (by decide) ?_
            refine R_iret (pc := 81) rfl rfl dX10_repair_81 ?_
            exact ⟨by rw [zw_rep, if_pos ⟨c_5, c_17⟩, hci, hccc, zw_rep2, if_neg (fun z => Int32.not_lt.mpr c_47 z.2.2.1)], _, q0, by rw [zw_rep, if_pos ⟨c_5, c_17⟩, hci, hccc, zw_rep2, if_neg (fun z => Int32.not_lt.mpr c_47 z.2.2.1)]; exact Ms.rf M⟩
          · skip
            have d_47 := Int32.not_le.mp c_47
            have d47 : gx M.2.1 i 7 < 0 := Int32.not_le.mp c_47
            refine R_aload_n0 (pc := 50) dX10_repair_50 ?_
            refine R_iload_n1 (pc := 51) dX10_repair_51 ?_
            refine R_bipush (pc := 52) (v := 10) dX10_repair_52 (by decide) ?_
            refine R_callV2 (pc := 54) (T := TX10) cal_X10_get kw899 kw901 kw25 dX10_repair_54 (c_X10_get hM (by assumption) (k := 10) (by decide)) (by decide) (Nat.le_of_ble_eq_true rfl) (ci := 8) rfl (by assumption) ?_
            rintro _ _ ⟨rfl, rfl⟩
            refine R_if_ne (pc := 57) 64 dX10_repair_57 (by decide) (fun c_57 => ?_) (fun c_57 => ?_)
            · skip
              refine R_iconst (pc := 64) (v := 0) dX10_repair_64 (by decide) ?_
              refine R_istore_n3 (pc := 65) dX10_repair_65 rfl (by decide) ?_
              refine R_iload_n3 (pc := 66) dX10_repair_66 ?_
              refine R_if_eq (pc := 67) 79 dX10_repair_67 (by decide) (fun _ => ?_) (fun c0 => False.elim (by revert c0; decide))
              refine R_bipush (pc := 79) (v := (-2)) dX10_repair_79 (by decide) ?_
              refine R_iret (pc := 81) rfl rfl dX10_repair_81 ?_
              exact ⟨by rw [zw_rep, if_pos ⟨c_5, c_17⟩, hci, hccc, zw_rep2, if_neg (fun z => c_57 z.2.2.2.1)], _, q0, by rw [zw_rep, if_pos ⟨c_5, c_17⟩, hci, hccc, zw_rep2, if_neg (fun z => c_57 z.2.2.2.1)]; exact Ms.rf M⟩
            · skip
              refine R_iconst (pc := 60) (v := 1) dX10_repair_60 (by decide) ?_
              refine R_goto (pc := 61) 65 dX10_repair_61 (by decide) ?_
              refine R_istore_n3 (pc := 65) dX10_repair_65 rfl (by decide) ?_
              refine R_iload_n3 (pc := 66) dX10_repair_66 ?_
              refine R_if_eq (pc := 67) 79 dX10_repair_67 (by decide) (fun c0 => False.elim (by revert c0; decide)) (fun _ => ?_)
              refine R_aload_n0 (pc := 70) dX10_repair_70 ?_
              refine R_iload_n1 (pc := 71) dX10_repair_71 ?_
              refine R_iload_n2 (pc := 72) dX10_repair_72 ?_
              refine R_callV2 (pc := 73) (T := TX10) cal_X10_gainOf kw1029 kw1031 kw44 dX10_repair_73 (c_X10_gainOf hM hi hcc ecc) (by decide) (Nat.le_of_ble_eq_true rfl) (ci := 8) rfl (by assumption) ?_
              rintro _ _ ⟨rfl, rfl⟩
              refine R_if_ne (pc := 76) 82 dX10_repair_76 (by decide) (fun c_76 => ?_) (fun c_76 => ?_)
              · skip
                refine R_aload_n0 (pc := 82) dX10_repair_82 ?_
                refine R_callV0 (pc := 83) (T := TX10) cal_X10_act kw903 kw905 kw26 dX10_repair_83 (c_X10_act hM hm hmu) (by decide) (Nat.le_of_ble_eq_true rfl) (ci := 8) rfl (by assumption) ?_
                rintro _ h83 ⟨rfl, e83⟩
                obtain ⟨F2, b2, hact, hF2⟩ := z_act_form (M) m
                rw [hact] at e83
                have q83 : h83 = mput _ u (F2, M.2.1, b2, M.2.2.2) := mstep_M q0 e83
                have hM83 := mAt q83
                have mo83 := hM83.o
                have ms83 := hM83.s
                have mb83 := hM83.b
                have mt83 := hM83.t
                have mn83 := hM83.n
                have mc83 := hM83.c
                refine R_aload_n0 (pc := 86) dX10_repair_86 ?_
                refine R_iload_n1 (pc := 87) dX10_repair_87 ?_
                refine R_iload_n2 (pc := 88) dX10_repair_88 ?_
                refine R_callV2 (pc := 89) (T := TX10) cal_X10_gainOf kw1029 kw1031 kw44 dX10_repair_89 (c_X10_gainOf hM83 hi hcc ecc) (by decide) (Nat.le_of_ble_eq_true rfl) (ci := 8) rfl (by assumption) ?_
                rintro _ _ ⟨rfl, rfl⟩
                refine R_istore4 (pc := 92) dX10_repair_92 rfl (by decide) ?_
                refine R_iload_n2 (pc := 94) dX10_repair_94 ?_
                refine R_if_ne (pc := 95) 103 dX10_repair_95 (by decide) (fun c_95 => ?_) (fun c_95 => ?_)
                · skip
                  refine R_iload_n2 (pc := 103) dX10_repair_103 ?_
                  refine R_iconst (pc := 104) (v := 1) dX10_repair_104 (by decide) ?_
                  refine R_iadd (pc := 105) dX10_repair_105 ?_
                  refine R_istore5 (pc := 106) dX10_repair_106 rfl (by decide) ?_
                  refine R_iload_n2 (pc := 108) dX10_repair_108 ?_
                  refine R_if_ne (pc := 109) 116 dX10_repair_109 (by decide) (fun c_109 => ?_) (fun c_109 => ?_)
                  · skip
                    refine R_iload_n2 (pc := 116) dX10_repair_116 ?_
                    refine R_iconst (pc := 117) (v := 1) dX10_repair_117 (by decide) ?_
                    refine R_icmp_ne (pc := 118) 125 dX10_repair_118 (by decide) (fun c_118 => ?_) (fun c_118 => ?_)
                    · skip
                      refine R_bipush (pc := 125) (v := 6) dX10_repair_125 (by decide) ?_
                      refine R_istore6 (pc := 127) dX10_repair_127 rfl (by decide) ?_
                      refine R_aload_n0 (pc := 129) dX10_repair_129 ?_
                      refine G_X10_7 (pc := 130) dX10_repair_130 (by assumption) ?_
                      refine R_bipush (pc := 133) (v := 8) dX10_repair_133 (by decide) ?_
                      refine R_aload_n0 (pc := 135) dX10_repair_135 ?_
                      refine R_iload_n1 (pc := 136) dX10_repair_136 ?_
                      refine R_iconst (pc := 137) (v := 0) dX10_repair_137 (by decide) ?_
                      refine R_callV2 (pc := 138) (T := TX10) cal_X10_get kw899 kw901 kw25 dX10_repair_138 (c_X10_get hM83 (by assumption) (k := 0) (by decide)) (by decide) (Nat.le_of_ble_eq_true rfl) (ci := 8) rfl (by assumption) ?_
                      rintro _ _ ⟨rfl, rfl⟩
                      refine R_iadd (pc := 141) dX10_repair_141 ?_
                      rw [show gx (F2, M.2.1, b2, M.2.2.2).2.1 i 0 = nI cc from ecc, show (8 : Int32) + nI cc = nI (8 + cc) from nI_add 8 cc]
                      refine R_dup2 (pc := 142) dX10_repair_142 rfl rfl ?_
                      refine R_iald (pc := 143) dX10_repair_143 (by assumption) (in_n (show 8 + cc < 545 by omega) (by decide)) ?_
                      rw [nI_clamp (show 8 + cc < 2 ^ 31 by omega)]
                      refine R_iload5 (pc := 144) dX10_repair_144 ?_
                      refine R_isub (pc := 146) dX10_repair_146 ?_
                      refine R_iastF (pc := 147) dX10_repair_147 (by assumption) (in_n (show 8 + cc < 545 by omega) (by decide)) (fun h1 e1 f1 => ?_)
                      rw [nI_clamp (show 8 + cc < 2 ^ 31 by omega)] at e1 f1
                      have q1 := mstep_s q83 e1
                      have hM1 := mAt q1
                      have mo1 := hM1.o
                      have ms1 := hM1.s
                      have mb1 := hM1.b
                      have mt1 := hM1.t
                      have mn1 := hM1.n
                      have mc1 := hM1.c
                      refine R_aload_n0 (pc := 148) dX10_repair_148 ?_
                      refine R_iload_n1 (pc := 149) dX10_repair_149 ?_
                      refine R_iload6 (pc := 150) dX10_repair_150 ?_
                      refine R_aload_n0 (pc := 152) dX10_repair_152 ?_
                      refine R_iload_n1 (pc := 153) dX10_repair_153 ?_
                      refine R_iload6 (pc := 154) dX10_repair_154 ?_
                      refine R_callV2 (pc := 156) (T := TX10) cal_X10_get kw899 kw901 kw25 dX10_repair_156 (c_X10_get hM1 (by assumption) (k := 6) (by decide)) (by decide) (Nat.le_of_ble_eq_true rfl) (ci := 8) rfl (by assumption) ?_
                      rintro _ _ ⟨rfl, rfl⟩
                      refine R_iload4 (pc := 159) dX10_repair_159 ?_
                      refine R_iadd (pc := 161) dX10_repair_161 ?_
                      refine R_callV3 (pc := 162) (T := TX10) cal_X10_put kw930 kw932 kw30 dX10_repair_162 (c_X10_put hM1 (by assumption) (k := 6) (by decide)) (by decide) (Nat.le_of_ble_eq_true rfl) (ci := 8) rfl (by assumption) ?_
                      rintro _ h2 ⟨rfl, e2⟩
                      have q2 := mstep_M q1 e2
                      have hM2 := mAt q2
                      have mo2 := hM2.o
                      have ms2 := hM2.s
                      have mb2 := hM2.b
                      have mt2 := hM2.t
                      have mn2 := hM2.n
                      have mc2 := hM2.c
                      refine R_aload_n0 (pc := 165) dX10_repair_165 ?_
                      refine R_iload_n1 (pc := 166) dX10_repair_166 ?_
                      refine R_bipush (pc := 167) (v := 10) dX10_repair_167 (by decide) ?_
                      refine R_iconst (pc := 169) (v := 4) dX10_repair_169 (by decide) ?_
                      refine R_callV3 (pc := 170) (T := TX10) cal_X10_put kw930 kw932 kw30 dX10_repair_170 (c_X10_put hM2 (by assumption) (k := 10) (by decide)) (by decide) (Nat.le_of_ble_eq_true rfl) (ci := 8) rfl (by assumption) ?_
                      rintro _ h3 ⟨rfl, e3⟩
                      have q3 := mstep_M q2 e3
                      have hM3 := mAt q3
                      have mo3 := hM3.o
                      have ms3 := hM3.s
                      have mb3 := hM3.b
                      have mt3 := hM3.t
                      have mn3 := hM3.n
                      have mc3 := hM3.c
                      refine R_iload4 (pc := 173) dX10_repair_173 ?_
                      refine R_iret (pc := 175) rfl rfl dX10_repair_175 ?_
                      have h1 : z_cost w (z_gain M.2.1 i cc w) = w + 1 := if_neg c_95
                      have h2 : z_of w = 6 := by rw [z_of, if_neg c_109, if_neg c_118]
                      refine ⟨?_, _, q3, ?_⟩
                      · rw [zw_rep, if_pos ⟨c_5, c_17⟩, hci, hccc, zw_rep2, if_pos ⟨c_29, c_37, d47, c_57, c_76⟩]
                        try rfl
                      · rw [zw_rep, if_pos ⟨c_5, c_17⟩, hci, hccc, zw_rep2, if_pos ⟨c_29, c_37, d47, c_57, c_76⟩, z_rp, h1, h2]
                        exact Ms.fin (s := M.2.1) (Ms.rf M) hact _
                    · skip
                      refine R_iconst (pc := 121) (v := 4) dX10_repair_121 (by decide) ?_
                      refine R_goto (pc := 122) 127 dX10_repair_122 (by decide) ?_
                      refine R_istore6 (pc := 127) dX10_repair_127 rfl (by decide) ?_
                      refine R_aload_n0 (pc := 129) dX10_repair_129 ?_
                      refine G_X10_7 (pc := 130) dX10_repair_130 (by assumption) ?_
                      refine R_bipush (pc := 133) (v := 8) dX10_repair_133 (by decide) ?_
                      refine R_aload_n0 (pc := 135) dX10_repair_135 ?_
                      refine R_iload_n1 (pc := 136) dX10_repair_136 ?_
                      refine R_iconst (pc := 137) (v := 0) dX10_repair_137 (by decide) ?_
                      refine R_callV2 (pc := 138) (T := TX10) cal_X10_get kw899 kw901 kw25 dX10_repair_138 (c_X10_get hM83 (by assumption) (k := 0) (by decide)) (by decide) (Nat.le_of_ble_eq_true rfl) (ci := 8) rfl (by assumption) ?_
                      rintro _ _ ⟨rfl, rfl⟩
                      refine R_iadd (pc := 141) dX10_repair_141 ?_
                      rw [show gx (F2, M.2.1, b2, M.2.2.2).2.1 i 0 = nI cc from ecc, show (8 : Int32) + nI cc = nI (8 + cc) from nI_add 8 cc]
                      refine R_dup2 (pc := 142) dX10_repair_142 rfl rfl ?_
                      refine R_iald (pc := 143) dX10_repair_143 (by assumption) (in_n (show 8 + cc < 545 by omega) (by decide)) ?_
                      rw [nI_clamp (show 8 + cc < 2 ^ 31 by omega)]
                      refine R_iload5 (pc := 144) dX10_repair_144 ?_
                      refine R_isub (pc := 146) dX10_repair_146 ?_
                      refine R_iastF (pc := 147) dX10_repair_147 (by assumption) (in_n (show 8 + cc < 545 by omega) (by decide)) (fun h4 e4 f4 => ?_)
                      rw [nI_clamp (show 8 + cc < 2 ^ 31 by omega)] at e4 f4
                      have q4 := mstep_s q83 e4
                      have hM4 := mAt q4
                      have mo4 := hM4.o
                      have ms4 := hM4.s
                      have mb4 := hM4.b
                      have mt4 := hM4.t
                      have mn4 := hM4.n
                      have mc4 := hM4.c
                      refine R_aload_n0 (pc := 148) dX10_repair_148 ?_
                      refine R_iload_n1 (pc := 149) dX10_repair_149 ?_
                      refine R_iload6 (pc := 150) dX10_repair_150 ?_
                      refine R_aload_n0 (pc := 152) dX10_repair_152 ?_
                      refine R_iload_n1 (pc := 153) dX10_repair_153 ?_
                      refine R_iload6 (pc := 154) dX10_repair_154 ?_
                      refine R_callV2 (pc := 156) (T := TX10) cal_X10_get kw899 kw901 kw25 dX10_repair_156 (c_X10_get hM4 (by assumption) (k := 4) (by decide)) (by decide) (Nat.le_of_ble_eq_true rfl) (ci := 8) rfl (by assumption) ?_
                      rintro _ _ ⟨rfl, rfl⟩
                      refine R_iload4 (pc := 159) dX10_repair_159 ?_
                      refine R_iadd (pc := 161) dX10_repair_161 ?_
                      refine R_callV3 (pc := 162) (T := TX10) cal_X10_put kw930 kw932 kw30 dX10_repair_162 (c_X10_put hM4 (by assumption) (k := 4) (by decide)) (by decide) (Nat.le_of_ble_eq_true rfl) (ci := 8) rfl (by assumption) ?_
                      rintro _ h5 ⟨rfl, e5⟩
                      have q5 := mstep_M q4 e5
                      have hM5 := mAt q5
                      have mo5 := hM5.o
                      have ms5 := hM5.s
                      have mb5 := hM5.b
                      have mt5 := hM5.t
                      have mn5 := hM5.n
                      have mc5 := hM5.c
                      refine R_aload_n0 (pc := 165) dX10_repair_165 ?_
                      refine R_iload_n1 (pc := 166) dX10_repair_166 ?_
                      refine R_bipush (pc := 167) (v := 10) dX10_repair_167 (by decide) ?_
                      refine R_iconst (pc := 169) (v := 4) dX10_repair_169 (by decide) ?_
                      refine R_callV3 (pc := 170) (T := TX10) cal_X10_put kw930 kw932 kw30 dX10_repair_170 (c_X10_put hM5 (by assumption) (k := 10) (by decide)) (by decide) (Nat.le_of_ble_eq_true rfl) (ci := 8) rfl (by assumption) ?_
                      rintro _ h6 ⟨rfl, e6⟩
                      have q6 := mstep_M q5 e6
                      have hM6 := mAt q6
                      have mo6 := hM6.o
                      have ms6 := hM6.s
                      have mb6 := hM6.b
                      have mt6 := hM6.t
                      have mn6 := hM6.n
                      have mc6 := hM6.c
                      refine R_iload4 (pc := 173) dX10_repair_173 ?_
                      refine R_iret (pc := 175) rfl rfl dX10_repair_175 ?_
                      have h1 : z_cost w (z_gain M.2.1 i cc w) = w + 1 := if_neg c_95
                      have h2 : z_of w = 4 := by rw [z_of, if_neg c_109, if_pos c_118]
                      refine ⟨?_, _, q6, ?_⟩
                      · rw [zw_rep, if_pos ⟨c_5, c_17⟩, hci, hccc, zw_rep2, if_pos ⟨c_29, c_37, d47, c_57, c_76⟩]
                        try rfl
                      · rw [zw_rep, if_pos ⟨c_5, c_17⟩, hci, hccc, zw_rep2, if_pos ⟨c_29, c_37, d47, c_57, c_76⟩, z_rp, h1, h2]
                        exact Ms.fin (s := M.2.1) (Ms.rf M) hact _
                  · skip
                    refine R_iconst (pc := 112) (v := 3) dX10_repair_112 (by decide) ?_
                    refine R_goto (pc := 113) 127 dX10_repair_113 (by decide) ?_
                    refine R_istore6 (pc := 127) dX10_repair_127 rfl (by decide) ?_
                    refine R_aload_n0 (pc := 129) dX10_repair_129 ?_
                    refine G_X10_7 (pc := 130) dX10_repair_130 (by assumption) ?_
                    refine R_bipush (pc := 133) (v := 8) dX10_repair_133 (by decide) ?_
                    refine R_aload_n0 (pc := 135) dX10_repair_135 ?_
                    refine R_iload_n1 (pc := 136) dX10_repair_136 ?_
                    refine R_iconst (pc := 137) (v := 0) dX10_repair_137 (by decide) ?_
                    refine R_callV2 (pc := 138) (T := TX10) cal_X10_get kw899 kw901 kw25 dX10_repair_138 (c_X10_get hM83 (by assumption) (k := 0) (by decide)) (by decide) (Nat.le_of_ble_eq_true rfl) (ci := 8) rfl (by assumption) ?_
                    rintro _ _ ⟨rfl, rfl⟩
                    refine R_iadd (pc := 141) dX10_repair_141 ?_
                    rw [show gx (F2, M.2.1, b2, M.2.2.2).2.1 i 0 = nI cc from ecc, show (8 : Int32) + nI cc = nI (8 + cc) from nI_add 8 cc]
                    refine R_dup2 (pc := 142) dX10_repair_142 rfl rfl ?_
                    refine R_iald (pc := 143) dX10_repair_143 (by assumption) (in_n (show 8 + cc < 545 by omega) (by decide)) ?_
                    rw [nI_clamp (show 8 + cc < 2 ^ 31 by omega)]
                    refine R_iload5 (pc := 144) dX10_repair_144 ?_
                    refine R_isub (pc := 146) dX10_repair_146 ?_
                    refine R_iastF (pc := 147) dX10_repair_147 (by assumption) (in_n (show 8 + cc < 545 by omega) (by decide)) (fun h7 e7 f7 => ?_)
                    rw [nI_clamp (show 8 + cc < 2 ^ 31 by omega)] at e7 f7
                    have q7 := mstep_s q83 e7
                    have hM7 := mAt q7
                    have mo7 := hM7.o
                    have ms7 := hM7.s
                    have mb7 := hM7.b
                    have mt7 := hM7.t
                    have mn7 := hM7.n
                    have mc7 := hM7.c
                    refine R_aload_n0 (pc := 148) dX10_repair_148 ?_
                    refine R_iload_n1 (pc := 149) dX10_repair_149 ?_
                    refine R_iload6 (pc := 150) dX10_repair_150 ?_
                    refine R_aload_n0 (pc := 152) dX10_repair_152 ?_
                    refine R_iload_n1 (pc := 153) dX10_repair_153 ?_
                    refine R_iload6 (pc := 154) dX10_repair_154 ?_
                    refine R_callV2 (pc := 156) (T := TX10) cal_X10_get kw899 kw901 kw25 dX10_repair_156 (c_X10_get hM7 (by assumption) (k := 3) (by decide)) (by decide) (Nat.le_of_ble_eq_true rfl) (ci := 8) rfl (by assumption) ?_
                    rintro _ _ ⟨rfl, rfl⟩
                    refine R_iload4 (pc := 159) dX10_repair_159 ?_
                    refine R_iadd (pc := 161) dX10_repair_161 ?_
                    refine R_callV3 (pc := 162) (T := TX10) cal_X10_put kw930 kw932 kw30 dX10_repair_162 (c_X10_put hM7 (by assumption) (k := 3) (by decide)) (by decide) (Nat.le_of_ble_eq_true rfl) (ci := 8) rfl (by assumption) ?_
                    rintro _ h8 ⟨rfl, e8⟩
                    have q8 := mstep_M q7 e8
                    have hM8 := mAt q8
                    have mo8 := hM8.o
                    have ms8 := hM8.s
                    have mb8 := hM8.b
                    have mt8 := hM8.t
                    have mn8 := hM8.n
                    have mc8 := hM8.c
                    refine R_aload_n0 (pc := 165) dX10_repair_165 ?_
                    refine R_iload_n1 (pc := 166) dX10_repair_166 ?_
                    refine R_bipush (pc := 167) (v := 10) dX10_repair_167 (by decide) ?_
                    refine R_iconst (pc := 169) (v := 4) dX10_repair_169 (by decide) ?_
                    refine R_callV3 (pc := 170) (T := TX10) cal_X10_put kw930 kw932 kw30 dX10_repair_170 (c_X10_put hM8 (by assumption) (k := 10) (by decide)) (by decide) (Nat.le_of_ble_eq_true rfl) (ci := 8) rfl (by assumption) ?_
                    rintro _ h9 ⟨rfl, e9⟩
                    have q9 := mstep_M q8 e9
                    have hM9 := mAt q9
                    have mo9 := hM9.o
                    have ms9 := hM9.s
                    have mb9 := hM9.b
                    have mt9 := hM9.t
                    have mn9 := hM9.n
                    have mc9 := hM9.c
                    refine R_iload4 (pc := 173) dX10_repair_173 ?_
                    refine R_iret (pc := 175) rfl rfl dX10_repair_175 ?_
                    have h1 : z_cost w (z_gain M.2.1 i cc w) = w + 1 := if_neg c_95
                    have h2 : z_of w = 3 := if_pos c_109
                    refine ⟨?_, _, q9, ?_⟩
                    · rw [zw_rep, if_pos ⟨c_5, c_17⟩, hci, hccc, zw_rep2, if_pos ⟨c_29, c_37, d47, c_57, c_76⟩]
                      try rfl
                    · rw [zw_rep, if_pos ⟨c_5, c_17⟩, hci, hccc, zw_rep2, if_pos ⟨c_29, c_37, d47, c_57, c_76⟩, z_rp, h1, h2]
                      exact Ms.fin (s := M.2.1) (Ms.rf M) hact _
                · skip
                  refine R_iload4 (pc := 98) dX10_repair_98 ?_
                  refine R_goto (pc := 100) 106 dX10_repair_100 (by decide) ?_
                  refine R_istore5 (pc := 106) dX10_repair_106 rfl (by decide) ?_
                  refine R_iload_n2 (pc := 108) dX10_repair_108 ?_
                  refine R_if_ne (pc := 109) 116 dX10_repair_109 (by decide) (fun c_109 => ?_) (fun c_109 => ?_)
                  · skip
                    refine R_iload_n2 (pc := 116) dX10_repair_116 ?_
                    refine R_iconst (pc := 117) (v := 1) dX10_repair_117 (by decide) ?_
                    refine R_icmp_ne (pc := 118) 125 dX10_repair_118 (by decide) (fun c_118 => ?_) (fun c_118 => ?_)
                    · skip
                      refine R_bipush (pc := 125) (v := 6) dX10_repair_125 (by decide) ?_
                      refine R_istore6 (pc := 127) dX10_repair_127 rfl (by decide) ?_
                      refine R_aload_n0 (pc := 129) dX10_repair_129 ?_
                      refine G_X10_7 (pc := 130) dX10_repair_130 (by assumption) ?_
                      refine R_bipush (pc := 133) (v := 8) dX10_repair_133 (by decide) ?_
                      refine R_aload_n0 (pc := 135) dX10_repair_135 ?_
                      refine R_iload_n1 (pc := 136) dX10_repair_136 ?_
                      refine R_iconst (pc := 137) (v := 0) dX10_repair_137 (by decide) ?_
                      refine R_callV2 (pc := 138) (T := TX10) cal_X10_get kw899 kw901 kw25 dX10_repair_138 (c_X10_get hM83 (by assumption) (k := 0) (by decide)) (by decide) (Nat.le_of_ble_eq_true rfl) (ci := 8) rfl (by assumption) ?_
                      rintro _ _ ⟨rfl, rfl⟩
                      refine R_iadd (pc := 141) dX10_repair_141 ?_
                      rw [show gx (F2, M.2.1, b2, M.2.2.2).2.1 i 0 = nI cc from ecc, show (8 : Int32) + nI cc = nI (8 + cc) from nI_add 8 cc]
                      refine R_dup2 (pc := 142) dX10_repair_142 rfl rfl ?_
                      refine R_iald (pc := 143) dX10_repair_143 (by assumption) (in_n (show 8 + cc < 545 by omega) (by decide)) ?_
                      rw [nI_clamp (show 8 + cc < 2 ^ 31 by omega)]
                      refine R_iload5 (pc := 144) dX10_repair_144 ?_
                      refine R_isub (pc := 146) dX10_repair_146 ?_
                      refine R_iastF (pc := 147) dX10_repair_147 (by assumption) (in_n (show 8 + cc < 545 by omega) (by decide)) (fun h10 e10 f10 => ?_)
                      rw [nI_clamp (show 8 + cc < 2 ^ 31 by omega)] at e10 f10
                      have q10 := mstep_s q83 e10
                      have hM10 := mAt q10
                      have mo10 := hM10.o
                      have ms10 := hM10.s
                      have mb10 := hM10.b
                      have mt10 := hM10.t
                      have mn10 := hM10.n
                      have mc10 := hM10.c
                      refine R_aload_n0 (pc := 148) dX10_repair_148 ?_
                      refine R_iload_n1 (pc := 149) dX10_repair_149 ?_
                      refine R_iload6 (pc := 150) dX10_repair_150 ?_
                      refine R_aload_n0 (pc := 152) dX10_repair_152 ?_
                      refine R_iload_n1 (pc := 153) dX10_repair_153 ?_
                      refine R_iload6 (pc := 154) dX10_repair_154 ?_
                      refine R_callV2 (pc := 156) (T := TX10) cal_X10_get kw899 kw901 kw25 dX10_repair_156 (c_X10_get hM10 (by assumption) (k := 6) (by decide)) (by decide) (Nat.le_of_ble_eq_true rfl) (ci := 8) rfl (by assumption) ?_
                      rintro _ _ ⟨rfl, rfl⟩
                      refine R_iload4 (pc := 159) dX10_repair_159 ?_
                      refine R_iadd (pc := 161) dX10_repair_161 ?_
                      refine R_callV3 (pc := 162) (T := TX10) cal_X10_put kw930 kw932 kw30 dX10_repair_162 (c_X10_put hM10 (by assumption) (k := 6) (by decide)) (by decide) (Nat.le_of_ble_eq_true rfl) (ci := 8) rfl (by assumption) ?_
                      rintro _ h11 ⟨rfl, e11⟩
                      have q11 := mstep_M q10 e11
                      have hM11 := mAt q11
                      have mo11 := hM11.o
                      have ms11 := hM11.s
                      have mb11 := hM11.b
                      have mt11 := hM11.t
                      have mn11 := hM11.n
                      have mc11 := hM11.c
                      refine R_aload_n0 (pc := 165) dX10_repair_165 ?_
                      refine R_iload_n1 (pc := 166) dX10_repair_166 ?_
                      refine R_bipush (pc := 167) (v := 10) dX10_repair_167 (by decide) ?_
                      refine R_iconst (pc := 169) (v := 4) dX10_repair_169 (by decide) ?_
                      refine R_callV3 (pc := 170) (T := TX10) cal_X10_put kw930 kw932 kw30 dX10_repair_170 (c_X10_put hM11 (by assumption) (k := 10) (by decide)) (by decide) (Nat.le_of_ble_eq_true rfl) (ci := 8) rfl (by assumption) ?_
                      rintro _ h12 ⟨rfl, e12⟩
                      have q12 := mstep_M q11 e12
                      have hM12 := mAt q12
                      have mo12 := hM12.o
                      have ms12 := hM12.s
                      have mb12 := hM12.b
                      have mt12 := hM12.t
                      have mn12 := hM12.n
                      have mc12 := hM12.c
                      refine R_iload4 (pc := 173) dX10_repair_173 ?_
                      refine R_iret (pc := 175) rfl rfl dX10_repair_175 ?_
                      have h1 : z_cost w (z_gain M.2.1 i cc w) = z_gain M.2.1 i cc w := if_pos c_95
                      have h2 : z_of w = 6 := by rw [z_of, if_neg c_109, if_neg c_118]
                      refine ⟨?_, _, q12, ?_⟩
                      · rw [zw_rep, if_pos ⟨c_5, c_17⟩, hci, hccc, zw_rep2, if_pos ⟨c_29, c_37, d47, c_57, c_76⟩]
                        try rfl
                      · rw [zw_rep, if_pos ⟨c_5, c_17⟩, hci, hccc, zw_rep2, if_pos ⟨c_29, c_37, d47, c_57, c_76⟩, z_rp, h1, h2]
                        exact Ms.fin (s := M.2.1) (Ms.rf M) hact _
                    · skip
                      refine R_iconst (pc := 121) (v := 4) dX10_repair_121 (by decide) ?_
                      refine R_goto (pc := 122) 127 dX10_repair_122 (by decide) ?_
                      refine R_istore6 (pc := 127) dX10_repair_127 rfl (by decide) ?_
                      refine R_aload_n0 (pc := 129) dX10_repair_129 ?_
                      refine G_X10_7 (pc := 130) dX10_repair_130 (by assumption) ?_
                      refine R_bipush (pc := 133) (v := 8) dX10_repair_133 (by decide) ?_
                      refine R_aload_n0 (pc := 135) dX10_repair_135 ?_
                      refine R_iload_n1 (pc := 136) dX10_repair_136 ?_
                      refine R_iconst (pc := 137) (v := 0) dX10_repair_137 (by decide) ?_
                      refine R_callV2 (pc := 138) (T := TX10) cal_X10_get kw899 kw901 kw25 dX10_repair_138 (c_X10_get hM83 (by assumption) (k := 0) (by decide)) (by decide) (Nat.le_of_ble_eq_true rfl) (ci := 8) rfl (by assumption) ?_
                      rintro _ _ ⟨rfl, rfl⟩
                      refine R_iadd (pc := 141) dX10_repair_141 ?_
                      rw [show gx (F2, M.2.1, b2, M.2.2.2).2.1 i 0 = nI cc from ecc, show (8 : Int32) + nI cc = nI (8 + cc) from nI_add 8 cc]
                      refine R_dup2 (pc := 142) dX10_repair_142 rfl rfl ?_
                      refine R_iald (pc := 143) dX10_repair_143 (by assumption) (in_n (show 8 + cc < 545 by omega) (by decide)) ?_
                      rw [nI_clamp (show 8 + cc < 2 ^ 31 by omega)]
                      refine R_iload5 (pc := 144) dX10_repair_144 ?_
                      refine R_isub (pc := 146) dX10_repair_146 ?_
                      refine R_iastF (pc := 147) dX10_repair_147 (by assumption) (in_n (show 8 + cc < 545 by omega) (by decide)) (fun h13 e13 f13 => ?_)
                      rw [nI_clamp (show 8 + cc < 2 ^ 31 by omega)] at e13 f13
                      have q13 := mstep_s q83 e13
                      have hM13 := mAt q13
                      have mo13 := hM13.o
                      have ms13 := hM13.s
                      have mb13 := hM13.b
                      have mt13 := hM13.t
                      have mn13 := hM13.n
                      have mc13 := hM13.c
                      refine R_aload_n0 (pc := 148) dX10_repair_148 ?_
                      refine R_iload_n1 (pc := 149) dX10_repair_149 ?_
                      refine R_iload6 (pc := 150) dX10_repair_150 ?_
                      refine R_aload_n0 (pc := 152) dX10_repair_152 ?_
                      refine R_iload_n1 (pc := 153) dX10_repair_153 ?_
                      refine R_iload6 (pc := 154) dX10_repair_154 ?_
                      refine R_callV2 (pc := 156) (T := TX10) cal_X10_get kw899 kw901 kw25 dX10_repair_156 (c_X10_get hM13 (by assumption) (k := 4) (by decide)) (by decide) (Nat.le_of_ble_eq_true rfl) (ci := 8) rfl (by assumption) ?_
                      rintro _ _ ⟨rfl, rfl⟩
                      refine R_iload4 (pc := 159) dX10_repair_159 ?_
                      refine R_iadd (pc := 161) dX10_repair_161 ?_
                      refine R_callV3 (pc := 162) (T := TX10) cal_X10_put kw930 kw932 kw30 dX10_repair_162 (c_X10_put hM13 (by assumption) (k := 4) (by decide)) (by decide) (Nat.le_of_ble_eq_true rfl) (ci := 8) rfl (by assumption) ?_
                      rintro _ h14 ⟨rfl, e14⟩
                      have q14 := mstep_M q13 e14
                      have hM14 := mAt q14
                      have mo14 := hM14.o
                      have ms14 := hM14.s
                      have mb14 := hM14.b
                      have mt14 := hM14.t
                      have mn14 := hM14.n
                      have mc14 := hM14.c
                      refine R_aload_n0 (pc := 165) dX10_repair_165 ?_
                      refine R_iload_n1 (pc := 166) dX10_repair_166 ?_
                      refine R_bipush (pc := 167) (v := 10) dX10_repair_167 (by decide) ?_
                      refine R_iconst (pc := 169) (v := 4) dX10_repair_169 (by decide) ?_
                      refine R_callV3 (pc := 170) (T := TX10) cal_X10_put kw930 kw932 kw30 dX10_repair_170 (c_X10_put hM14 (by assumption) (k := 10) (by decide)) (by decide) (Nat.le_of_ble_eq_true rfl) (ci := 8) rfl (by assumption) ?_
                      rintro _ h15 ⟨rfl, e15⟩
                      have q15 := mstep_M q14 e15
                      have hM15 := mAt q15
                      have mo15 := hM15.o
                      have ms15 := hM15.s
                      have mb15 := hM15.b
                      have mt15 := hM15.t
                      have mn15 := hM15.n
                      have mc15 := hM15.c
                      refine R_iload4 (pc := 173) dX10_repair_173 ?_
                      refine R_iret (pc := 175) rfl rfl dX10_repair_175 ?_
                      have h1 : z_cost w (z_gain M.2.1 i cc w) = z_gain M.2.1 i cc w := if_pos c_95
                      have h2 : z_of w = 4 := by rw [z_of, if_neg c_109, if_pos c_118]
                      refine ⟨?_, _, q15, ?_⟩
                      · rw [zw_rep, if_pos ⟨c_5, c_17⟩, hci, hccc, zw_rep2, if_pos ⟨c_29, c_37, d47, c_57, c_76⟩]
                        try rfl
                      · rw [zw_rep, if_pos ⟨c_5, c_17⟩, hci, hccc, zw_rep2, if_pos ⟨c_29, c_37, d47, c_57, c_76⟩, z_rp, h1, h2]
                        exact Ms.fin (s := M.2.1) (Ms.rf M) hact _
                  · skip
                    refine R_iconst (pc := 112) (v := 3) dX10_repair_112 (by decide) ?_
                    refine R_goto (pc := 113) 127 dX10_repair_113 (by decide) ?_
                    refine R_istore6 (pc := 127) dX10_repair_127 rfl (by decide) ?_
                    refine R_aload_n0 (pc := 129) dX10_repair_129 ?_
                    refine G_X10_7 (pc := 130) dX10_repair_130 (by assumption) ?_
                    refine R_bipush (pc := 133) (v := 8) dX10_repair_133 (by decide) ?_
                    refine R_aload_n0 (pc := 135) dX10_repair_135 ?_
                    refine R_iload_n1 (pc := 136) dX10_repair_136 ?_
                    refine R_iconst (pc := 137) (v := 0) dX10_repair_137 (by decide) ?_
                    refine R_callV2 (pc := 138) (T := TX10) cal_X10_get kw899 kw901 kw25 dX10_repair_138 (c_X10_get hM83 (by assumption) (k := 0) (by decide)) (by decide) (Nat.le_of_ble_eq_true rfl) (ci := 8) rfl (by assumption) ?_
                    rintro _ _ ⟨rfl, rfl⟩
                    refine R_iadd (pc := 141) dX10_repair_141 ?_
                    rw [show gx (F2, M.2.1, b2, M.2.2.2).2.1 i 0 = nI cc from ecc, show (8 : Int32) + nI cc = nI (8 + cc) from nI_add 8 cc]
                    refine R_dup2 (pc := 142) dX10_repair_142 rfl rfl ?_
                    refine R_iald (pc := 143) dX10_repair_143 (by assumption) (in_n (show 8 + cc < 545 by omega) (by decide)) ?_
                    rw [nI_clamp (show 8 + cc < 2 ^ 31 by omega)]
                    refine R_iload5 (pc := 144) dX10_repair_144 ?_
                    refine R_isub (pc := 146) dX10_repair_146 ?_
                    refine R_iastF (pc := 147) dX10_repair_147 (by assumption) (in_n (show 8 + cc < 545 by omega) (by decide)) (fun h16 e16 f16 => ?_)
                    rw [nI_clamp (show 8 + cc < 2 ^ 31 by omega)] at e16 f16
                    have q16 := mstep_s q83 e16
                    have hM16 := mAt q16
                    have mo16 := hM16.o
                    have ms16 := hM16.s
                    have mb16 := hM16.b
                    have mt16 := hM16.t
                    have mn16 := hM16.n
                    have mc16 := hM16.c
                    refine R_aload_n0 (pc := 148) dX10_repair_148 ?_
                    refine R_iload_n1 (pc := 149) dX10_repair_149 ?_
                    refine R_iload6 (pc := 150) dX10_repair_150 ?_
                    refine R_aload_n0 (pc := 152) dX10_repair_152 ?_
                    refine R_iload_n1 (pc := 153) dX10_repair_153 ?_
                    refine R_iload6 (pc := 154) dX10_repair_154 ?_
                    refine R_callV2 (pc := 156) (T := TX10) cal_X10_get kw899 kw901 kw25 dX10_repair_156 (c_X10_get hM16 (by assumption) (k := 3) (by decide)) (by decide) (Nat.le_of_ble_eq_true rfl) (ci := 8) rfl (by assumption) ?_
                    rintro _ _ ⟨rfl, rfl⟩
                    refine R_iload4 (pc := 159) dX10_repair_159 ?_
                    refine R_iadd (pc := 161) dX10_repair_161 ?_
                    refine R_callV3 (pc := 162) (T := TX10) cal_X10_put kw930 kw932 kw30 dX10_repair_162 (c_X10_put hM16 (by assumption) (k := 3) (by decide)) (by decide) (Nat.le_of_ble_eq_true rfl) (ci := 8) rfl (by assumption) ?_
                    rintro _ h17 ⟨rfl, e17⟩
                    have q17 := mstep_M q16 e17
                    have hM17 := mAt q17
                    have mo17 := hM17.o
                    have ms17 := hM17.s
                    have mb17 := hM17.b
                    have mt17 := hM17.t
                    have mn17 := hM17.n
                    have mc17 := hM17.c
                    refine R_aload_n0 (pc := 165) dX10_repair_165 ?_
                    refine R_iload_n1 (pc := 166) dX10_repair_166 ?_
                    refine R_bipush (pc := 167) (v := 10) dX10_repair_167 (by decide) ?_
                    refine R_iconst (pc := 169) (v := 4) dX10_repair_169 (by decide) ?_
                    refine R_callV3 (pc := 170) (T := TX10) cal_X10_put kw930 kw932 kw30 dX10_repair_170 (c_X10_put hM17 (by assumption) (k := 10) (by decide)) (by decide) (Nat.le_of_ble_eq_true rfl) (ci := 8) rfl (by assumption) ?_
                    rintro _ h18 ⟨rfl, e18⟩
                    have q18 := mstep_M q17 e18
                    have hM18 := mAt q18
                    have mo18 := hM18.o
                    have ms18 := hM18.s
                    have mb18 := hM18.b
                    have mt18 := hM18.t
                    have mn18 := hM18.n
                    have mc18 := hM18.c
                    refine R_iload4 (pc := 173) dX10_repair_173 ?_
                    refine R_iret (pc := 175) rfl rfl dX10_repair_175 ?_
                    have h1 : z_cost w (z_gain M.2.1 i cc w) = z_gain M.2.1 i cc w := if_pos c_95
                    have h2 : z_of w = 3 := if_pos c_109
                    refine ⟨?_, _, q18, ?_⟩
                    · rw [zw_rep, if_pos ⟨c_5, c_17⟩, hci, hccc, zw_rep2, if_pos ⟨c_29, c_37, d47, c_57, c_76⟩]
                      try rfl
                    · rw [zw_rep, if_pos ⟨c_5, c_17⟩, hci, hccc, zw_rep2, if_pos ⟨c_29, c_37, d47, c_57, c_76⟩, z_rp, h1, h2]
                      exact Ms.fin (s := M.2.1) (Ms.rf M) hact _
              · skip
                refine R_bipush (pc := 79) (v := (-2)) dX10_repair_79 (by decide) ?_
                refine R_iret (pc := 81) rfl rfl dX10_repair_81 ?_
                exact ⟨by rw [zw_rep, if_pos ⟨c_5, c_17⟩, hci, hccc, zw_rep2, if_neg (fun z => z.2.2.2.2 c_76)], _, q0, by rw [zw_rep, if_pos ⟨c_5, c_17⟩, hci, hccc, zw_rep2, if_neg (fun z => z.2.2.2.2 c_76)]; exact Ms.rf M⟩
    · skip
      refine R_iconst (pc := 20) (v := (-1)) dX10_repair_20 (by decide) ?_
      refine R_iret (pc := 21) rfl rfl dX10_repair_21 ?_
      exact ⟨by rw [zw_rep, if_neg (fun z => c_17 z.2)], _, q0, by rw [zw_rep, if_neg (fun z => c_17 z.2)]; exact Ms.rf M⟩

end LV34
