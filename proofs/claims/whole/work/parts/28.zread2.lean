/-! THE REFERENCE: its public reading methods, on -/
theorem kf_ext {f g : Int32 → Nat → Int32} : ∀ (n i : Nat) (a : Int32), (∀ b j, i ≤ j → j < i + n → f b j = g b j) → kf f a i n = kf g a i n
  | 0, _, _, _ => rfl
  | n + 1, i, a, h => by
    rw [kf_s, kf_s, h a i (Nat.le_refl _) (by omega)]
    exact kf_ext n (i + 1) _ (fun b j h1 h2 => h b j (by omega) (by omega))
section LV28
variable {l : Launch} {D : va_G} {cA : Nat → ClassId} {N0 : Nat} {h : AH} {u : Nat} {M : Mm}
theorem c_X10_getV {i : Nat} {v : Int32} (hM : MAt h u M) (hi : i < 8) (hv : 0 ≤ v ∧ v ≤ 10) : Spec l D cA N0 m_X10_get 0 0 0 [.ref u, .int (nI i), .int v] h (fun r h' => r = some (.int (gx M.2.1 i v.toNatClampNeg)) ∧ h' = h) := by
  obtain ⟨k, hk, rfl⟩ := ge0 (n := 10) hv.1 (by decide) hv.2
  rw [nI_clamp (show k < 2 ^ 31 by omega)]
  exact c_X10_get hM hi (by omega)
set_option maxHeartbeats 4000000 in
set_option maxRecDepth 100000 in
theorem c_X10_ship (hM : MAt h u M) {sn : Nat} (hn : sn ≤ 8) (hsn : M.2.1 10 = nI sn) {x v : Int32} : Spec l D cA N0 m_X10_ship 4 0 0 [.ref u, .int x, .int v] h (fun r h' => r = some (.int (zp_ship M.2.1 sn x v)) ∧ ∃ M2, h' = mput h u M2 ∧ Ms M M2) := by
  refine Spec.of (L := [some (.ref u), some (.int x), some (.int v)]) (by decide) rfl (Nat.le_of_ble_eq_true rfl) ?_
  have q0 : h = mput h u M := (mput_self hM).symm
  have mo0 := hM.o
  have ms0 := hM.s
  have mb0 := hM.b
  have mt0 := hM.t
  have mn0 := hM.n
  have mc0 := hM.c
  refine R_aload_n0 (pc := 0) dX10_ship_0 ?_
  refine R_iload_n1 (pc := 1) dX10_ship_1 ?_
  refine R_callV1 (pc := 2) (T := TX10) cal_X10_isShip kw958 kw960 kw32 dX10_ship_2 (c_X10_isShip hM hn hsn) (by decide) (Nat.le_of_ble_eq_true rfl) (ci := 8) rfl (by assumption) ?_
  rintro _ _ ⟨rfl, rfl⟩
  refine R_ifb_eq (pc := 5) 20 dX10_ship_5 (by decide) (fun c_5 => ?_) (fun c_5 => ?_)
  · skip
    refine R_iconst (pc := 20) (v := (-1)) dX10_ship_20 (by decide) ?_
    refine R_iret (pc := 21) rfl rfl dX10_ship_21 ?_
    exact ⟨by rw [zp_ship, if_neg (fun z => c_5 z.1)], _, q0, Ms.rf M⟩
  · skip
    obtain ⟨i, hsi, ei⟩ := i_nI c_5.1 c_5.2 (by omega)
    have hi : i < 8 := by omega
    have hci : (nI i).toNatClampNeg = i := nI_clamp (by omega)
    subst ei
    refine R_iload_n2 (pc := 8) dX10_ship_8 ?_
    refine R_i2l (pc := 9) dX10_ship_9 ?_
    refine R_lconst (pc := 10) (v := 0) dX10_ship_10 (by decide) ?_
    refine R_ldc2 (pc := 11) dX10_ship_11 kw1121 ?_
    refine R_callS3 (pc := 14) cal_X10_in kw892 kw893 dX10_ship_14 (c_X10_in rfl (lo := 0) (by decide) (hi := 10) (by decide)) (by decide) (Nat.le_of_ble_eq_true rfl) ?_
    rintro _ _ ⟨rfl, rfl⟩
    refine R_ifb_ne (pc := 17) 22 dX10_ship_17 (by decide) (fun c_17 => ?_) (fun c_17 => ?_)
    · skip
      refine R_iload_n2 (pc := 22) dX10_ship_22 ?_
      refine R_swG (pc := 23) (lo := 1) (hi := 9) 129 dX10_ship_23 (by decide) (fun c_23 => ?_) (fun c_23 c_23b => ?_)
      · skip
        refine R_aload_n0 (pc := 129) dX10_ship_129 ?_
        refine R_iload_n1 (pc := 130) dX10_ship_130 ?_
        refine R_iload_n2 (pc := 131) dX10_ship_131 ?_
        refine R_callV2 (pc := 132) (T := TX10) cal_X10_get kw899 kw901 kw25 dX10_ship_132 (c_X10_getV hM hi c_17) (by decide) (Nat.le_of_ble_eq_true rfl) (ci := 8) rfl (by assumption) ?_
        rintro _ _ ⟨rfl, rfl⟩
        refine R_iret (pc := 135) rfl rfl dX10_ship_135 ?_
        exact ⟨congrArg (fun z => some (Value.int z)) (by rw [zp_ship, if_pos ⟨c_5, c_17⟩, hci, if_neg (fun z => z.elim (sw_ne c_23 (v := 1) (by decide)) (sw_ne c_23 (v := 7) (by decide))), if_neg (sw_ne c_23 (v := 8) (by decide)), if_neg (sw_ne c_23 (v := 9) (by decide))]), _, q0, Ms.rf M⟩
      · skip
        rcases sw_1_9 _ c_23 c_23b with c_23 | c_23 | c_23 | c_23 | c_23 | c_23 | c_23 | c_23 | c_23
        · skip
          refine R_swE (pc := 23) (v := 1) (off := 49) 72 dX10_ship_23 c_23 (by decide) (by decide) (by decide) (by decide) ?_
          refine R_aload_n0 (pc := 72) dX10_ship_72 ?_
          refine R_iload_n1 (pc := 73) dX10_ship_73 ?_
          refine R_iload_n2 (pc := 74) dX10_ship_74 ?_
          refine R_callV2 (pc := 75) (T := TX10) cal_X10_get kw899 kw901 kw25 dX10_ship_75 (c_X10_getV hM hi c_17) (by decide) (Nat.le_of_ble_eq_true rfl) (ci := 8) rfl (by assumption) ?_
          rintro _ _ ⟨rfl, rfl⟩
          refine R_if_ge (pc := 78) 86 dX10_ship_78 (by decide) (fun c_78 => ?_) (fun c_78 => ?_)
          · skip
            have d_78 := Int32.not_lt.mpr c_78
            refine R_aload_n0 (pc := 86) dX10_ship_86 ?_
            refine R_iload_n1 (pc := 87) dX10_ship_87 ?_
            refine R_iload_n2 (pc := 88) dX10_ship_88 ?_
            refine R_callV2 (pc := 89) (T := TX10) cal_X10_get kw899 kw901 kw25 dX10_ship_89 (c_X10_getV hM hi c_17) (by decide) (Nat.le_of_ble_eq_true rfl) (ci := 8) rfl (by assumption) ?_
            rintro _ _ ⟨rfl, rfl⟩
            refine R_iret (pc := 92) rfl rfl dX10_ship_92 ?_
            exact ⟨congrArg (fun z => some (Value.int z)) (by rw [zp_ship, if_pos ⟨c_5, c_17⟩, hci, if_pos (show v = 1 ∨ v = 7 from Or.inl c_23), if_neg (Int32.not_lt.mpr c_78)]), _, q0, Ms.rf M⟩
          · skip
            have d_78 := Int32.not_le.mp c_78
            refine R_bipush (pc := 81) (v := (-9)) dX10_ship_81 (by decide) ?_
            refine R_goto (pc := 83) 92 dX10_ship_83 (by decide) ?_
            refine R_iret (pc := 92) rfl rfl dX10_ship_92 ?_
            exact ⟨congrArg (fun z => some (Value.int z)) (by rw [zp_ship, if_pos ⟨c_5, c_17⟩, hci, if_pos (show v = 1 ∨ v = 7 from Or.inl c_23), if_pos (Int32.not_le.mp c_78)]), _, q0, Ms.rf M⟩
        · skip
          refine R_swE (pc := 23) (v := 2) (off := 106) 129 dX10_ship_23 c_23 (by decide) (by decide) (by decide) (by decide) ?_
          refine R_aload_n0 (pc := 129) dX10_ship_129 ?_
          refine R_iload_n1 (pc := 130) dX10_ship_130 ?_
          refine R_iload_n2 (pc := 131) dX10_ship_131 ?_
          refine R_callV2 (pc := 132) (T := TX10) cal_X10_get kw899 kw901 kw25 dX10_ship_132 (c_X10_getV hM hi c_17) (by decide) (Nat.le_of_ble_eq_true rfl) (ci := 8) rfl (by assumption) ?_
          rintro _ _ ⟨rfl, rfl⟩
          refine R_iret (pc := 135) rfl rfl dX10_ship_135 ?_
          exact ⟨congrArg (fun z => some (Value.int z)) (by rw [zp_ship, if_pos ⟨c_5, c_17⟩, hci, if_neg (by rw [c_23]; decide), if_neg (by rw [c_23]; decide), if_neg (by rw [c_23]; decide)]), _, q0, Ms.rf M⟩
        · skip
          refine R_swE (pc := 23) (v := 3) (off := 106) 129 dX10_ship_23 c_23 (by decide) (by decide) (by decide) (by decide) ?_
          refine R_aload_n0 (pc := 129) dX10_ship_129 ?_
          refine R_iload_n1 (pc := 130) dX10_ship_130 ?_
          refine R_iload_n2 (pc := 131) dX10_ship_131 ?_
          refine R_callV2 (pc := 132) (T := TX10) cal_X10_get kw899 kw901 kw25 dX10_ship_132 (c_X10_getV hM hi c_17) (by decide) (Nat.le_of_ble_eq_true rfl) (ci := 8) rfl (by assumption) ?_
          rintro _ _ ⟨rfl, rfl⟩
          refine R_iret (pc := 135) rfl rfl dX10_ship_135 ?_
          exact ⟨congrArg (fun z => some (Value.int z)) (by rw [zp_ship, if_pos ⟨c_5, c_17⟩, hci, if_neg (by rw [c_23]; decide), if_neg (by rw [c_23]; decide), if_neg (by rw [c_23]; decide)]), _, q0, Ms.rf M⟩
        · skip
          refine R_swE (pc := 23) (v := 4) (off := 106) 129 dX10_ship_23 c_23 (by decide) (by decide) (by decide) (by decide) ?_
          refine R_aload_n0 (pc := 129) dX10_ship_129 ?_
          refine R_iload_n1 (pc := 130) dX10_ship_130 ?_
          refine R_iload_n2 (pc := 131) dX10_ship_131 ?_
          refine R_callV2 (pc := 132) (T := TX10) cal_X10_get kw899 kw901 kw25 dX10_ship_132 (c_X10_getV hM hi c_17) (by decide) (Nat.le_of_ble_eq_true rfl) (ci := 8) rfl (by assumption) ?_
          rintro _ _ ⟨rfl, rfl⟩
          refine R_iret (pc := 135) rfl rfl dX10_ship_135 ?_
          exact ⟨congrArg (fun z => some (Value.int z)) (by rw [zp_ship, if_pos ⟨c_5, c_17⟩, hci, if_neg (by rw [c_23]; decide), if_neg (by rw [c_23]; decide), if_neg (by rw [c_23]; decide)]), _, q0, Ms.rf M⟩
        · skip
          refine R_swE (pc := 23) (v := 5) (off := 106) 129 dX10_ship_23 c_23 (by decide) (by decide) (by decide) (by decide) ?_
          refine R_aload_n0 (pc := 129) dX10_ship_129 ?_
          refine R_iload_n1 (pc := 130) dX10_ship_130 ?_
          refine R_iload_n2 (pc := 131) dX10_ship_131 ?_
          refine R_callV2 (pc := 132) (T := TX10) cal_X10_get kw899 kw901 kw25 dX10_ship_132 (c_X10_getV hM hi c_17) (by decide) (Nat.le_of_ble_eq_true rfl) (ci := 8) rfl (by assumption) ?_
          rintro _ _ ⟨rfl, rfl⟩
          refine R_iret (pc := 135) rfl rfl dX10_ship_135 ?_
          exact ⟨congrArg (fun z => some (Value.int z)) (by rw [zp_ship, if_pos ⟨c_5, c_17⟩, hci, if_neg (by rw [c_23]; decide), if_neg (by rw [c_23]; decide), if_neg (by rw [c_23]; decide)]), _, q0, Ms.rf M⟩
        · skip
          refine R_swE (pc := 23) (v := 6) (off := 106) 129 dX10_ship_23 c_23 (by decide) (by decide) (by decide) (by decide) ?_
          refine R_aload_n0 (pc := 129) dX10_ship_129 ?_
          refine R_iload_n1 (pc := 130) dX10_ship_130 ?_
          refine R_iload_n2 (pc := 131) dX10_ship_131 ?_
          refine R_callV2 (pc := 132) (T := TX10) cal_X10_get kw899 kw901 kw25 dX10_ship_132 (c_X10_getV hM hi c_17) (by decide) (Nat.le_of_ble_eq_true rfl) (ci := 8) rfl (by assumption) ?_
          rintro _ _ ⟨rfl, rfl⟩
          refine R_iret (pc := 135) rfl rfl dX10_ship_135 ?_
          exact ⟨congrArg (fun z => some (Value.int z)) (by rw [zp_ship, if_pos ⟨c_5, c_17⟩, hci, if_neg (by rw [c_23]; decide), if_neg (by rw [c_23]; decide), if_neg (by rw [c_23]; decide)]), _, q0, Ms.rf M⟩
        · skip
          refine R_swE (pc := 23) (v := 7) (off := 49) 72 dX10_ship_23 c_23 (by decide) (by decide) (by decide) (by decide) ?_
          refine R_aload_n0 (pc := 72) dX10_ship_72 ?_
          refine R_iload_n1 (pc := 73) dX10_ship_73 ?_
          refine R_iload_n2 (pc := 74) dX10_ship_74 ?_
          refine R_callV2 (pc := 75) (T := TX10) cal_X10_get kw899 kw901 kw25 dX10_ship_75 (c_X10_getV hM hi c_17) (by decide) (Nat.le_of_ble_eq_true rfl) (ci := 8) rfl (by assumption) ?_
          rintro _ _ ⟨rfl, rfl⟩
          refine R_if_ge (pc := 78) 86 dX10_ship_78 (by decide) (fun c_78 => ?_) (fun c_78 => ?_)
          · skip
            have d_78 := Int32.not_lt.mpr c_78
            refine R_aload_n0 (pc := 86) dX10_ship_86 ?_
            refine R_iload_n1 (pc := 87) dX10_ship_87 ?_
            refine R_iload_n2 (pc := 88) dX10_ship_88 ?_
            refine R_callV2 (pc := 89) (T := TX10) cal_X10_get kw899 kw901 kw25 dX10_ship_89 (c_X10_getV hM hi c_17) (by decide) (Nat.le_of_ble_eq_true rfl) (ci := 8) rfl (by assumption) ?_
            rintro _ _ ⟨rfl, rfl⟩
            refine R_iret (pc := 92) rfl rfl dX10_ship_92 ?_
            exact ⟨congrArg (fun z => some (Value.int z)) (by rw [zp_ship, if_pos ⟨c_5, c_17⟩, hci, if_pos (show v = 1 ∨ v = 7 from Or.inr c_23), if_neg (Int32.not_lt.mpr c_78)]), _, q0, Ms.rf M⟩
          · skip
            have d_78 := Int32.not_le.mp c_78
            refine R_bipush (pc := 81) (v := (-9)) dX10_ship_81 (by decide) ?_
            refine R_goto (pc := 83) 92 dX10_ship_83 (by decide) ?_
            refine R_iret (pc := 92) rfl rfl dX10_ship_92 ?_
            exact ⟨congrArg (fun z => some (Value.int z)) (by rw [zp_ship, if_pos ⟨c_5, c_17⟩, hci, if_pos (show v = 1 ∨ v = 7 from Or.inr c_23), if_pos (Int32.not_le.mp c_78)]), _, q0, Ms.rf M⟩
        · skip
          refine R_swE (pc := 23) (v := 8) (off := 70) 93 dX10_ship_23 c_23 (by decide) (by decide) (by decide) (by decide) ?_
          refine R_aload_n0 (pc := 93) dX10_ship_93 ?_
          refine R_iload_n1 (pc := 94) dX10_ship_94 ?_
          refine R_callV1 (pc := 95) (T := TX10) cal_X10_stepsNow kw966 kw968 kw34 dX10_ship_95 (c_X10_stepsNow hM (by assumption)) (by decide) (Nat.le_of_ble_eq_true rfl) (ci := 8) rfl (by assumption) ?_
          rintro _ _ ⟨rfl, rfl⟩
          refine R_iret (pc := 98) rfl rfl dX10_ship_98 ?_
          exact ⟨congrArg (fun z => some (Value.int z)) (by rw [zp_ship, if_pos ⟨c_5, c_17⟩, hci, if_neg (by rw [c_23]; decide), if_pos c_23]), _, q0, Ms.rf M⟩
        · skip
          refine R_swE (pc := 23) (v := 9) (off := 76) 99 dX10_ship_23 c_23 (by decide) (by decide) (by decide) (by decide) ?_
          refine R_aload_n0 (pc := 99) dX10_ship_99 ?_
          refine R_iload_n1 (pc := 100) dX10_ship_100 ?_
          refine R_iconst (pc := 101) (v := 0) dX10_ship_101 (by decide) ?_
          refine R_callV2 (pc := 102) (T := TX10) cal_X10_mayFire kw997 kw999 kw40 dX10_ship_102 (c_X10_mayFire hM hi (k := 0) (by decide)) (by decide) (Nat.le_of_ble_eq_true rfl) (ci := 8) rfl (by assumption) ?_
          rintro _ _ ⟨rfl, rfl⟩
          refine R_ifb_eq (pc := 105) 112 dX10_ship_105 (by decide) (fun c_105 => ?_) (fun c_105 => ?_)
          · skip
            refine R_iconst (pc := 112) (v := 1) dX10_ship_112 (by decide) ?_
            refine R_aload_n0 (pc := 113) dX10_ship_113 ?_
            refine R_iload_n1 (pc := 114) dX10_ship_114 ?_
            refine R_iconst (pc := 115) (v := 1) dX10_ship_115 (by decide) ?_
            refine R_callV2 (pc := 116) (T := TX10) cal_X10_mayFire kw997 kw999 kw40 dX10_ship_116 (c_X10_mayFire hM hi (k := 1) (by decide)) (by decide) (Nat.le_of_ble_eq_true rfl) (ci := 8) rfl (by assumption) ?_
            rintro _ _ ⟨rfl, rfl⟩
            refine R_ifb_eq (pc := 119) 126 dX10_ship_119 (by decide) (fun c_119 => ?_) (fun c_119 => ?_)
            · skip
              refine R_iconst (pc := 126) (v := 2) dX10_ship_126 (by decide) ?_
              refine R_iadd (pc := 127) dX10_ship_127 ?_
              refine R_iret (pc := 128) rfl rfl dX10_ship_128 ?_
              exact ⟨congrArg (fun z => some (Value.int z)) (by rw [zp_ship, if_pos ⟨c_5, c_17⟩, hci, if_neg (by rw [c_23]; decide), if_neg (by rw [c_23]; decide), if_pos c_23, if_neg c_105, if_neg c_119]), _, q0, Ms.rf M⟩
            · skip
              refine R_iconst (pc := 122) (v := 0) dX10_ship_122 (by decide) ?_
              refine R_goto (pc := 123) 127 dX10_ship_123 (by decide) ?_
              refine R_iadd (pc := 127) dX10_ship_127 ?_
              refine R_iret (pc := 128) rfl rfl dX10_ship_128 ?_
              exact ⟨congrArg (fun z => some (Value.int z)) (by rw [zp_ship, if_pos ⟨c_5, c_17⟩, hci, if_neg (by rw [c_23]; decide), if_neg (by rw [c_23]; decide), if_pos c_23, if_neg c_105, if_pos c_119]), _, q0, Ms.rf M⟩
          · skip
            refine R_iconst (pc := 108) (v := 0) dX10_ship_108 (by decide) ?_
            refine R_goto (pc := 109) 113 dX10_ship_109 (by decide) ?_
            refine R_aload_n0 (pc := 113) dX10_ship_113 ?_
            refine R_iload_n1 (pc := 114) dX10_ship_114 ?_
            refine R_iconst (pc := 115) (v := 1) dX10_ship_115 (by decide) ?_
            refine R_callV2 (pc := 116) (T := TX10) cal_X10_mayFire kw997 kw999 kw40 dX10_ship_116 (c_X10_mayFire hM hi (k := 1) (by decide)) (by decide) (Nat.le_of_ble_eq_true rfl) (ci := 8) rfl (by assumption) ?_
            rintro _ _ ⟨rfl, rfl⟩
            refine R_ifb_eq (pc := 119) 126 dX10_ship_119 (by decide) (fun c_119 => ?_) (fun c_119 => ?_)
            · skip
              refine R_iconst (pc := 126) (v := 2) dX10_ship_126 (by decide) ?_
              refine R_iadd (pc := 127) dX10_ship_127 ?_
              refine R_iret (pc := 128) rfl rfl dX10_ship_128 ?_
              exact ⟨congrArg (fun z => some (Value.int z)) (by rw [zp_ship, if_pos ⟨c_5, c_17⟩, hci, if_neg (by rw [c_23]; decide), if_neg (by rw [c_23]; decide), if_pos c_23, if_pos c_105, if_neg c_119]), _, q0, Ms.rf M⟩
            · skip
              refine R_iconst (pc := 122) (v := 0) dX10_ship_122 (by decide) ?_
              refine R_goto (pc := 123) 127 dX10_ship_123 (by decide) ?_
              refine R_iadd (pc := 127) dX10_ship_127 ?_
              refine R_iret (pc := 128) rfl rfl dX10_ship_128 ?_
              exact ⟨congrArg (fun z => some (Value.int z)) (by rw [zp_ship, if_pos ⟨c_5, c_17⟩, hci, if_neg (by rw [c_23]; decide), if_neg (by rw [c_23]; decide), if_pos c_23, if_pos c_105, if_pos c_119]), _, q0, Ms.rf M⟩
    · skip
      refine R_iconst (pc := 20) (v := (-1)) dX10_ship_20 (by decide) ?_
      refine R_iret (pc := 21) rfl rfl dX10_ship_21 ?_
      exact ⟨by rw [zp_ship, if_neg (fun z => c_17 z.2)], _, q0, Ms.rf M⟩

set_option maxHeartbeats 4000000 in
set_option maxRecDepth 100000 in
theorem c_X10_on (hM : MAt h u M) {sn : Nat} (hn : sn ≤ 8) (hsn : M.2.1 10 = nI sn) {x : Int32} : Spec l D cA N0 m_X10_on 3 0 0 [.ref u, .int x] h (fun r h' => r = some (.int (zp_on M.2.1 sn x)) ∧ ∃ M2, h' = mput h u M2 ∧ Ms M M2) := by
  refine Spec.of (L := [some (.ref u), some (.int x)]) (by decide) rfl (Nat.le_of_ble_eq_true rfl) ?_
  have q0 : h = mput h u M := (mput_self hM).symm
  have mo0 := hM.o
  have ms0 := hM.s
  have mb0 := hM.b
  have mt0 := hM.t
  have mn0 := hM.n
  have mc0 := hM.c
  refine R_iload_n1 (pc := 0) dX10_on_0 ?_
  refine R_callS1 (pc := 1) cal_X10_isHex kw888 kw889 dX10_on_1 c_X10_isHex (by decide) (Nat.le_of_ble_eq_true rfl) ?_
  rintro _ _ ⟨rfl, rfl⟩
  refine R_ifb_ne (pc := 4) 9 dX10_on_4 (by decide) (fun c_4 => ?_) (fun c_4 => ?_)
  · skip
    obtain ⟨y, hy, ey⟩ := ge0 (n := 80) c_4.1 (by decide) c_4.2
    have hcy : x.toNatClampNeg = y := by rw [ey, nI_clamp (by omega)]
    refine R_aload_n0 (pc := 9) dX10_on_9 ?_
    refine G_X10_7 (pc := 10) dX10_on_10 (by assumption) ?_
    refine R_bipush (pc := 13) (v := 12) dX10_on_13 (by decide) ?_
    refine R_iload_n1 (pc := 15) dX10_on_15 ?_
    refine R_iadd (pc := 16) dX10_on_16 ?_
    rw [show (12 : Int32) + x = nI (12 + y) from by rw [ey, h12]]
    refine R_iald (pc := 17) dX10_on_17 (by assumption) (in_n (show 12 + y < 545 by omega) (by decide)) ?_
    rw [nI_clamp (show 12 + y < 2 ^ 31 by omega), ← hcy]
    refine R_iconst (pc := 18) (v := 1) dX10_on_18 (by decide) ?_
    refine R_icmp_ne (pc := 19) 27 dX10_on_19 (by decide) (fun c_19 => ?_) (fun c_19 => ?_)
    · skip
      refine R_aload_n0 (pc := 27) dX10_on_27 ?_
      refine R_iload_n1 (pc := 28) dX10_on_28 ?_
      refine R_callV1 (pc := 29) (T := TX10) cal_X10_shipOn kw895 kw897 kw24 dX10_on_29 (c_X10_shipOn hM hn hsn) (by decide) (Nat.le_of_ble_eq_true rfl) (ci := 8) rfl (by assumption) ?_
      rintro _ _ ⟨rfl, rfl⟩
      refine R_if_ge (pc := 32) 40 dX10_on_32 (by decide) (fun c_32 => ?_) (fun c_32 => ?_)
      · skip
        have d_32 := Int32.not_lt.mpr c_32
        refine R_aload_n0 (pc := 40) dX10_on_40 ?_
        refine R_iload_n1 (pc := 41) dX10_on_41 ?_
        refine R_callV1 (pc := 42) (T := TX10) cal_X10_shipOn kw895 kw897 kw24 dX10_on_42 (c_X10_shipOn hM hn hsn) (by decide) (Nat.le_of_ble_eq_true rfl) (ci := 8) rfl (by assumption) ?_
        rintro _ _ ⟨rfl, rfl⟩
        refine R_iret (pc := 45) rfl rfl dX10_on_45 ?_
        exact ⟨by rw [zp_on, if_pos c_4, if_neg c_19, if_neg (Int32.not_lt.mpr c_32)], _, q0, Ms.rf M⟩
      · skip
        have d_32 := Int32.not_le.mp c_32
        refine R_bipush (pc := 35) (v := (-9)) dX10_on_35 (by decide) ?_
        refine R_goto (pc := 37) 45 dX10_on_37 (by decide) ?_
        refine R_iret (pc := 45) rfl rfl dX10_on_45 ?_
        exact ⟨by rw [zp_on, if_pos c_4, if_neg c_19, if_pos (Int32.not_le.mp c_32)], _, q0, Ms.rf M⟩
    · skip
      refine R_bipush (pc := 22) (v := 8) dX10_on_22 (by decide) ?_
      refine R_goto (pc := 24) 45 dX10_on_24 (by decide) ?_
      refine R_iret (pc := 45) rfl rfl dX10_on_45 ?_
      exact ⟨by rw [zp_on, if_pos c_4, if_pos c_19], _, q0, Ms.rf M⟩
  · skip
    refine R_iconst (pc := 7) (v := (-1)) dX10_on_7 (by decide) ?_
    refine R_iret (pc := 8) rfl rfl dX10_on_8 ?_
    exact ⟨by rw [zp_on, if_neg (fun z => c_4 z)], _, q0, Ms.rf M⟩

set_option maxHeartbeats 4000000 in
set_option maxRecDepth 100000 in
theorem L_X10_targets (hM : MAt h u M) {sn : Nat} (hn : sn ≤ 8) (hsn : M.2.1 10 = nI sn) {e : Nat} (he : e < 8) {side : Int32} : ∀ (n i : Nat) (a v : Int32) (h1 : AH), i + n = sn → h1 = mput h u (fM M 9 v) → RunM l D cA N0 m_X10_targets 4 0 0 (fun r h' => r = some (.int (kf (z_tg M.2.1 sn e side) a i n)) ∧ ∃ v, h' = mput h u (fM M 9 v)) h1 0 0 25 [some (.ref u), some (.int (nI e)), some (.int side), some (.int a), some (.int (nI i))] [] := by
  intro n
  induction n with
  | zero =>
    intro i a v h1 hi q1
    have hM1 := mAt q1
    have mo1 := hM1.o
    have ms1 := hM1.s
    have mb1 := hM1.b
    have mt1 := hM1.t
    have mn1 := hM1.n
    have mc1 := hM1.c
    refine R_iload4 (pc := 25) dX10_targets_25 ?_
    refine R_aload_n0 (pc := 27) dX10_targets_27 ?_
    refine G_X10_7 (pc := 28) dX10_targets_28 (by assumption) ?_
    refine R_bipush (pc := 31) (v := 10) dX10_targets_31 (by decide) ?_
    refine R_iald (pc := 33) dX10_targets_33 (by assumption) (in_n (i := 10) (by decide) (by decide)) ?_
    rw [show ((10 : Int32)).toNatClampNeg = 10 from rfl]
    rw [show (fM M 9 v).2.1 10 = nI sn from hsn]
    refine R_icmp_ge (pc := 34) 71 dX10_targets_34 (by decide) (fun c_34 => ?_) (fun c_34 => absurd (by rw [show i = sn by omega]; exact Int32.le_refl _) c_34)
    refine R_iload_n3 (pc := 71) dX10_targets_71 ?_
    refine R_iret (pc := 72) rfl rfl dX10_targets_72 ?_
    exact ⟨rfl, _, q1⟩
  | succ n ih =>
    intro i a v h1 hi q1
    have hM1 := mAt q1
    have mo1 := hM1.o
    have ms1 := hM1.s
    have mb1 := hM1.b
    have mt1 := hM1.t
    have mn1 := hM1.n
    have mc1 := hM1.c
    refine R_iload4 (pc := 25) dX10_targets_25 ?_
    refine R_aload_n0 (pc := 27) dX10_targets_27 ?_
    refine G_X10_7 (pc := 28) dX10_targets_28 (by assumption) ?_
    refine R_bipush (pc := 31) (v := 10) dX10_targets_31 (by decide) ?_
    refine R_iald (pc := 33) dX10_targets_33 (by assumption) (in_n (i := 10) (by decide) (by decide)) ?_
    rw [show ((10 : Int32)).toNatClampNeg = 10 from rfl]
    rw [show (fM M 9 v).2.1 10 = nI sn from hsn]
    refine R_icmp_ge (pc := 34) 71 dX10_targets_34 (by decide) (fun c_34 => absurd c_34 (nI_ge (show i < sn by omega) (by omega))) (fun c_34 => ?_)
    refine R_iload_n3 (pc := 37) dX10_targets_37 ?_
    refine R_iload4 (pc := 38) dX10_targets_38 ?_
    refine R_iload_n1 (pc := 40) dX10_targets_40 ?_
    refine R_icmp_eq (pc := 41) 62 dX10_targets_41 (by decide) (fun c_41 => ?_) (fun c_41 => ?_)
    · skip
      refine R_iconst (pc := 62) (v := 0) dX10_targets_62 (by decide) ?_
      refine R_ior (pc := 63) dX10_targets_63 ?_
      refine R_istore_n3 (pc := 64) dX10_targets_64 rfl (by decide) ?_
      refine R_iinc4 (pc := 65) dX10_targets_65 rfl (by decide) ?_
      refine R_goto (pc := 68) 25 dX10_targets_68 (by decide) ?_
      rw [nI_s, kf_s]
      have hif : z_tg M.2.1 sn e side a i = a ||| 0 := by rw [z_tg, if_neg (fun z => z.1 c_41)]
      rw [hif]
      exact ih (i + 1) _ _ _ (by omega) q1
    · skip
      refine R_aload_n0 (pc := 44) dX10_targets_44 ?_
      refine R_iload_n1 (pc := 45) dX10_targets_45 ?_
      refine R_iload_n2 (pc := 46) dX10_targets_46 ?_
      refine R_iload4 (pc := 47) dX10_targets_47 ?_
      refine R_callV3 (pc := 49) (T := TX10) cal_X10_farBy kw989 kw991 kw38 dX10_targets_49 (c_X10_farBy hM1 hn hsn he (show i < 8 by omega)) (by decide) (Nat.le_of_ble_eq_true rfl) (ci := 8) rfl (by assumption) ?_
      rintro _ h49 ⟨rfl, v49, e49⟩
      have q49 : h49 = mput h u (fM M 9 v49) := by rw [mstep_M q1 e49, fM_fM]
      have hM49 := mAt q49
      have mo49 := hM49.o
      have ms49 := hM49.s
      have mb49 := hM49.b
      have mt49 := hM49.t
      have mn49 := hM49.n
      have mc49 := hM49.c
      refine R_if_le (pc := 52) 62 dX10_targets_52 (by decide) (fun c_52 => ?_) (fun c_52 => ?_)
      · skip
        have d_52 := Int32.not_lt.mpr c_52
        have c_52 : ¬ 0 < z_far M.2.1 sn e side i := Int32.not_lt.mpr c_52
        refine R_iconst (pc := 62) (v := 0) dX10_targets_62 (by decide) ?_
        refine R_ior (pc := 63) dX10_targets_63 ?_
        refine R_istore_n3 (pc := 64) dX10_targets_64 rfl (by decide) ?_
        refine R_iinc4 (pc := 65) dX10_targets_65 rfl (by decide) ?_
        refine R_goto (pc := 68) 25 dX10_targets_68 (by decide) ?_
        rw [nI_s, kf_s]
        have hif : z_tg M.2.1 sn e side a i = a ||| 0 := by rw [z_tg, if_neg (fun z => c_52 z.2)]
        rw [hif]
        exact ih (i + 1) _ _ _ (by omega) q49
      · skip
        have d_52 := Int32.not_le.mp c_52
        have c_52 : 0 < z_far M.2.1 sn e side i := Int32.not_le.mp c_52
        refine R_iconst (pc := 55) (v := 1) dX10_targets_55 (by decide) ?_
        refine R_iload4 (pc := 56) dX10_targets_56 ?_
        refine R_ishl (pc := 58) dX10_targets_58 ?_
        refine R_goto (pc := 59) 63 dX10_targets_59 (by decide) ?_
        refine R_ior (pc := 63) dX10_targets_63 ?_
        refine R_istore_n3 (pc := 64) dX10_targets_64 rfl (by decide) ?_
        refine R_iinc4 (pc := 65) dX10_targets_65 rfl (by decide) ?_
        refine R_goto (pc := 68) 25 dX10_targets_68 (by decide) ?_
        rw [nI_s, kf_s]
        have hif : z_tg M.2.1 sn e side a i = a ||| 1 <<< (nI i &&& 31) := by rw [z_tg, if_pos ⟨c_41, c_52⟩]
        rw [hif]
        exact ih (i + 1) _ _ _ (by omega) q49

set_option maxHeartbeats 4000000 in
set_option maxRecDepth 100000 in
theorem c_X10_targets (hM : MAt h u M) {sn : Nat} (hn : sn ≤ 8) (hsn : M.2.1 10 = nI sn) {x side : Int32} : Spec l D cA N0 m_X10_targets 4 0 0 [.ref u, .int x, .int side] h (fun r h' => r = some (.int (zp_targets M.2.1 sn x side)) ∧ ∃ M2, h' = mput h u M2 ∧ Ms M M2) := by
  refine Spec.of (L := [some (.ref u), some (.int x), some (.int side), none, none]) (by decide) rfl (Nat.le_of_ble_eq_true rfl) ?_
  have q0 : h = mput h u M := (mput_self hM).symm
  have mo0 := hM.o
  have ms0 := hM.s
  have mb0 := hM.b
  have mt0 := hM.t
  have mn0 := hM.n
  have mc0 := hM.c
  refine R_aload_n0 (pc := 0) dX10_targets_0 ?_
  refine R_iload_n1 (pc := 1) dX10_targets_1 ?_
  refine R_callV1 (pc := 2) (T := TX10) cal_X10_isShip kw958 kw960 kw32 dX10_targets_2 (c_X10_isShip hM hn hsn) (by decide) (Nat.le_of_ble_eq_true rfl) (ci := 8) rfl (by assumption) ?_
  rintro _ _ ⟨rfl, rfl⟩
  refine R_ifb_eq (pc := 5) 18 dX10_targets_5 (by decide) (fun c_5 => ?_) (fun c_5 => ?_)
  · skip
    refine R_iconst (pc := 18) (v := (-1)) dX10_targets_18 (by decide) ?_
    refine R_iret (pc := 19) rfl rfl dX10_targets_19 ?_
    exact ⟨by rw [zp_targets, if_neg (fun z => c_5 z.1)], _, q0, Ms.rf M⟩
  · skip
    obtain ⟨i, hsi, ei⟩ := i_nI c_5.1 c_5.2 (by omega)
    have hi : i < 8 := by omega
    have hci : (nI i).toNatClampNeg = i := nI_clamp (by omega)
    subst ei
    refine R_iload_n2 (pc := 8) dX10_targets_8 ?_
    refine R_i2l (pc := 9) dX10_targets_9 ?_
    refine R_lconst (pc := 10) (v := 0) dX10_targets_10 (by decide) ?_
    refine R_lconst (pc := 11) (v := 1) dX10_targets_11 (by decide) ?_
    refine R_callS3 (pc := 12) cal_X10_in kw892 kw893 dX10_targets_12 (c_X10_in rfl (lo := 0) (by decide) (hi := 1) (by decide)) (by decide) (Nat.le_of_ble_eq_true rfl) ?_
    rintro _ _ ⟨rfl, rfl⟩
    refine R_ifb_ne (pc := 15) 20 dX10_targets_15 (by decide) (fun c_15 => ?_) (fun c_15 => ?_)
    · skip
      refine R_iconst (pc := 20) (v := 0) dX10_targets_20 (by decide) ?_
      refine R_istore_n3 (pc := 21) dX10_targets_21 rfl (by decide) ?_
      refine R_iconst (pc := 22) (v := 0) dX10_targets_22 (by decide) ?_
      refine R_istore4 (pc := 23) dX10_targets_23 rfl (by decide) ?_
      refine R_post (fun r h9 q9 => ?_) (L_X10_targets hM hn hsn hi sn 0 0 _ _ (Nat.zero_add sn) (q_far hM))
      obtain ⟨q9a, v9, q9b⟩ := q9
      exact ⟨by rw [q9a, zp_targets, if_pos ⟨c_5, c_15⟩, hci], _, q9b, Ms.f9 _ _⟩
    · skip
      refine R_iconst (pc := 18) (v := (-1)) dX10_targets_18 (by decide) ?_
      refine R_iret (pc := 19) rfl rfl dX10_targets_19 ?_
      exact ⟨by rw [zp_targets, if_neg (fun z => c_15 z.2)], _, q0, Ms.rf M⟩

set_option maxHeartbeats 4000000 in
set_option maxRecDepth 100000 in
theorem c_X10_hits (hM : MAt h u M) {sn : Nat} (hn : sn ≤ 8) (hsn : M.2.1 10 = nI sn) {x side y : Int32} : Spec l D cA N0 m_X10_hits 4 0 0 [.ref u, .int x, .int side, .int y] h (fun r h' => r = some (.int (zp_hits M.2.1 sn x side y)) ∧ ∃ M2, h' = mput h u M2 ∧ Ms M M2) := by
  refine Spec.of (L := [some (.ref u), some (.int x), some (.int side), some (.int y), none]) (by decide) rfl (Nat.le_of_ble_eq_true rfl) ?_
  have q0 : h = mput h u M := (mput_self hM).symm
  have mo0 := hM.o
  have ms0 := hM.s
  have mb0 := hM.b
  have mt0 := hM.t
  have mn0 := hM.n
  have mc0 := hM.c
  refine R_aload_n0 (pc := 0) dX10_hits_0 ?_
  refine R_iload_n1 (pc := 1) dX10_hits_1 ?_
  refine R_iload_n3 (pc := 2) dX10_hits_2 ?_
  refine R_callV2 (pc := 3) (T := TX10) cal_X10_areTwo kw985 kw987 kw37 dX10_hits_3 (c_X10_areTwo hM hn hsn) (by decide) (Nat.le_of_ble_eq_true rfl) (ci := 8) rfl (by assumption) ?_
  rintro _ _ ⟨rfl, rfl⟩
  refine R_ifb_eq (pc := 6) 19 dX10_hits_6 (by decide) (fun c_6 => ?_) (fun c_6 => ?_)
  · skip
    refine R_iconst (pc := 19) (v := (-1)) dX10_hits_19 (by decide) ?_
    refine R_iret (pc := 20) rfl rfl dX10_hits_20 ?_
    exact ⟨by rw [zp_hits, if_neg (fun z => c_6 z.1)], _, q0, Ms.rf M⟩
  · skip
    obtain ⟨i, hsi, ei⟩ := i_nI c_6.1.1 c_6.1.2 (by omega)
    obtain ⟨j, hsj, ej⟩ := i_nI c_6.2.1.1 c_6.2.1.2 (by omega)
    have hi : i < 8 := by omega
    have hj : j < 8 := by omega
    have hci : (nI i).toNatClampNeg = i := nI_clamp (by omega)
    have hcj : (nI j).toNatClampNeg = j := nI_clamp (by omega)
    subst ei
    subst ej
    refine R_iload_n2 (pc := 9) dX10_hits_9 ?_
    refine R_i2l (pc := 10) dX10_hits_10 ?_
    refine R_lconst (pc := 11) (v := 0) dX10_hits_11 (by decide) ?_
    refine R_lconst (pc := 12) (v := 1) dX10_hits_12 (by decide) ?_
    refine R_callS3 (pc := 13) cal_X10_in kw892 kw893 dX10_hits_13 (c_X10_in rfl (lo := 0) (by decide) (hi := 1) (by decide)) (by decide) (Nat.le_of_ble_eq_true rfl) ?_
    rintro _ _ ⟨rfl, rfl⟩
    refine R_ifb_ne (pc := 16) 21 dX10_hits_16 (by decide) (fun c_16 => ?_) (fun c_16 => ?_)
    · skip
      refine R_aload_n0 (pc := 21) dX10_hits_21 ?_
      refine R_iload_n1 (pc := 22) dX10_hits_22 ?_
      refine R_iload_n2 (pc := 23) dX10_hits_23 ?_
      refine R_iload_n3 (pc := 24) dX10_hits_24 ?_
      refine R_callV3 (pc := 25) (T := TX10) cal_X10_farBy kw989 kw991 kw38 dX10_hits_25 (c_X10_farBy hM hn hsn hi hj) (by decide) (Nat.le_of_ble_eq_true rfl) (ci := 8) rfl (by assumption) ?_
      rintro _ h25 ⟨rfl, v25, e25⟩
      have q25 := mstep_M q0 e25
      have hM25 := mAt q25
      have mo25 := hM25.o
      have ms25 := hM25.s
      have mb25 := hM25.b
      have mt25 := hM25.t
      have mn25 := hM25.n
      have mc25 := hM25.c
      refine R_istore4 (pc := 28) dX10_hits_28 rfl (by decide) ?_
      refine R_iload4 (pc := 30) dX10_hits_30 ?_
      refine R_if_ne (pc := 32) 40 dX10_hits_32 (by decide) (fun c_32 => ?_) (fun c_32 => ?_)
      · skip
        refine R_aload_n0 (pc := 40) dX10_hits_40 ?_
        refine R_iload_n1 (pc := 41) dX10_hits_41 ?_
        refine R_iload4 (pc := 42) dX10_hits_42 ?_
        refine R_callV2 (pc := 44) (T := TX10) cal_X10_hitsAt kw1001 kw1003 kw41 dX10_hits_44 (c_X10_hitsAt hM25 hi) (by decide) (Nat.le_of_ble_eq_true rfl) (ci := 8) rfl (by assumption) ?_
        rintro _ _ ⟨rfl, rfl⟩
        refine R_iret (pc := 47) rfl rfl dX10_hits_47 ?_
        exact ⟨by rw [zp_hits, if_pos ⟨c_6, c_16⟩, hci, hcj, if_neg c_32]; rfl, _, q25, Ms.f9 _ _⟩
      · skip
        refine R_bipush (pc := 35) (v := (-9)) dX10_hits_35 (by decide) ?_
        refine R_goto (pc := 37) 47 dX10_hits_37 (by decide) ?_
        refine R_iret (pc := 47) rfl rfl dX10_hits_47 ?_
        exact ⟨by rw [zp_hits, if_pos ⟨c_6, c_16⟩, hci, hcj, if_pos c_32], _, q25, Ms.f9 _ _⟩
    · skip
      refine R_iconst (pc := 19) (v := (-1)) dX10_hits_19 (by decide) ?_
      refine R_iret (pc := 20) rfl rfl dX10_hits_20 ?_
      exact ⟨by rw [zp_hits, if_neg (fun z => c_16 z.2)], _, q0, Ms.rf M⟩

set_option maxHeartbeats 4000000 in
set_option maxRecDepth 100000 in
theorem L_X10_threats (hM : MAt h u M) {sn : Nat} (hn : sn ≤ 8) (hsn : M.2.1 10 = nI sn) {e : Nat} (he : e < 8) : ∀ (n i : Nat) (a v : Int32) (h1 : AH) (q : Option Value), i + n = sn → h1 = mput h u (fM M 9 v) → q = none ∨ (∃ z, q = some (.int z)) → RunM l D cA N0 m_X10_threats 4 0 0 (fun r h' => r = some (.int (kf (z_th M.2.1 sn e) a i n)) ∧ ∃ v, h' = mput h u (fM M 9 v)) h1 0 0 14 [some (.ref u), some (.int (nI e)), some (.int a), some (.int (nI i)), q] [] := by
  intro n
  induction n with
  | zero =>
    intro i a v h1 q hi q1 hq
    have hM1 := mAt q1
    have mo1 := hM1.o
    have ms1 := hM1.s
    have mb1 := hM1.b
    have mt1 := hM1.t
    have mn1 := hM1.n
    have mc1 := hM1.c
    rcases hq with rfl | ⟨z, rfl⟩
    · skip
      refine R_iload_n3 (pc := 14) dX10_threats_14 ?_
      refine R_aload_n0 (pc := 15) dX10_threats_15 ?_
      refine G_X10_7 (pc := 16) dX10_threats_16 (by assumption) ?_
      refine R_bipush (pc := 19) (v := 10) dX10_threats_19 (by decide) ?_
      refine R_iald (pc := 21) dX10_threats_21 (by assumption) (in_n (i := 10) (by decide) (by decide)) ?_
      rw [show ((10 : Int32)).toNatClampNeg = 10 from rfl]
      rw [show (fM M 9 v).2.1 10 = nI sn from hsn]
      refine R_icmp_ge (pc := 22) 78 dX10_threats_22 (by decide) (fun c_22 => ?_) (fun c_22 => absurd (by rw [show i = sn by omega]; exact Int32.le_refl _) c_22)
      refine R_iload_n2 (pc := 78) dX10_threats_78 ?_
      refine R_iret (pc := 79) rfl rfl dX10_threats_79 ?_
      exact ⟨rfl, _, q1⟩
    · skip
      refine R_iload_n3 (pc := 14) dX10_threats_14 ?_
      refine R_aload_n0 (pc := 15) dX10_threats_15 ?_
      refine G_X10_7 (pc := 16) dX10_threats_16 (by assumption) ?_
      refine R_bipush (pc := 19) (v := 10) dX10_threats_19 (by decide) ?_
      refine R_iald (pc := 21) dX10_threats_21 (by assumption) (in_n (i := 10) (by decide) (by decide)) ?_
      rw [show ((10 : Int32)).toNatClampNeg = 10 from rfl]
      rw [show (fM M 9 v).2.1 10 = nI sn from hsn]
      refine R_icmp_ge (pc := 22) 78 dX10_threats_22 (by decide) (fun c_22 => ?_) (fun c_22 => absurd (by rw [show i = sn by omega]; exact Int32.le_refl _) c_22)
      refine R_iload_n2 (pc := 78) dX10_threats_78 ?_
      refine R_iret (pc := 79) rfl rfl dX10_threats_79 ?_
      exact ⟨rfl, _, q1⟩
  | succ n ih =>
    intro i a v h1 q hi q1 hq
    have hM1 := mAt q1
    have mo1 := hM1.o
    have ms1 := hM1.s
    have mb1 := hM1.b
    have mt1 := hM1.t
    have mn1 := hM1.n
    have mc1 := hM1.c
    rcases hq with rfl | ⟨z, rfl⟩
    · skip
      refine R_iload_n3 (pc := 14) dX10_threats_14 ?_
      refine R_aload_n0 (pc := 15) dX10_threats_15 ?_
      refine G_X10_7 (pc := 16) dX10_threats_16 (by assumption) ?_
      refine R_bipush (pc := 19) (v := 10) dX10_threats_19 (by decide) ?_
      refine R_iald (pc := 21) dX10_threats_21 (by assumption) (in_n (i := 10) (by decide) (by decide)) ?_
      rw [show ((10 : Int32)).toNatClampNeg = 10 from rfl]
      rw [show (fM M 9 v).2.1 10 = nI sn from hsn]
      refine R_icmp_ge (pc := 22) 78 dX10_threats_22 (by decide) (fun c_22 => absurd c_22 (nI_ge (show i < sn by omega) (by omega))) (fun c_22 => ?_)
      refine R_iload_n3 (pc := 25) dX10_threats_25 ?_
      refine R_iload_n1 (pc := 26) dX10_threats_26 ?_
      refine R_icmp_eq (pc := 27) 54 dX10_threats_27 (by decide) (fun c_27 => ?_) (fun c_27 => ?_)
      · skip
        refine R_iconst (pc := 54) (v := 0) dX10_threats_54 (by decide) ?_
        refine R_istore4 (pc := 55) dX10_threats_55 rfl (by decide) ?_
        refine R_iload_n2 (pc := 57) dX10_threats_57 ?_
        refine R_iload4 (pc := 58) dX10_threats_58 ?_
        refine R_if_eq (pc := 60) 69 dX10_threats_60 (by decide) (fun _ => ?_) (fun c0 => False.elim (by revert c0; decide))
        refine R_iconst (pc := 69) (v := 0) dX10_threats_69 (by decide) ?_
        refine R_ior (pc := 70) dX10_threats_70 ?_
        refine R_istore_n2 (pc := 71) dX10_threats_71 rfl (by decide) ?_
        refine R_iinc3 (pc := 72) dX10_threats_72 rfl (by decide) ?_
        refine R_goto (pc := 75) 14 dX10_threats_75 (by decide) ?_
        rw [nI_s, kf_s]
        have hif : z_th M.2.1 sn e a i = a ||| 0 := by rw [z_th, if_neg (fun z => z.1 c_27)]
        rw [hif]
        exact ih (i + 1) _ _ _ _ (by omega) q1 (Or.inr ⟨_, rfl⟩)
      · skip
        refine R_aload_n0 (pc := 30) dX10_threats_30 ?_
        refine R_iload_n3 (pc := 31) dX10_threats_31 ?_
        refine R_iconst (pc := 32) (v := 0) dX10_threats_32 (by decide) ?_
        refine R_iload_n1 (pc := 33) dX10_threats_33 ?_
        refine R_callV3 (pc := 34) (T := TX10) cal_X10_farBy kw989 kw991 kw38 dX10_threats_34 (c_X10_farBy hM1 hn hsn (show i < 8 by omega) he) (by decide) (Nat.le_of_ble_eq_true rfl) (ci := 8) rfl (by assumption) ?_
        rintro _ h34 ⟨rfl, v34, e34⟩
        have q34 : h34 = mput h u (fM M 9 v34) := by rw [mstep_M q1 e34, fM_fM]
        have hM34 := mAt q34
        have mo34 := hM34.o
        have ms34 := hM34.s
        have mb34 := hM34.b
        have mt34 := hM34.t
        have mn34 := hM34.n
        have mc34 := hM34.c
        refine R_if_gt (pc := 37) 50 dX10_threats_37 (by decide) (fun c_37 => ?_) (fun c_37 => ?_)
        · skip
          have d_37 := Int32.not_le.mpr c_37
          have c_37 : 0 < z_far M.2.1 sn i 0 e := c_37
          refine R_iconst (pc := 50) (v := 1) dX10_threats_50 (by decide) ?_
          refine R_goto (pc := 51) 55 dX10_threats_51 (by decide) ?_
          refine R_istore4 (pc := 55) dX10_threats_55 rfl (by decide) ?_
          refine R_iload_n2 (pc := 57) dX10_threats_57 ?_
          refine R_iload4 (pc := 58) dX10_threats_58 ?_
          refine R_if_eq (pc := 60) 69 dX10_threats_60 (by decide) (fun c0 => False.elim (by revert c0; decide)) (fun _ => ?_)
          refine R_iconst (pc := 63) (v := 1) dX10_threats_63 (by decide) ?_
          refine R_iload_n3 (pc := 64) dX10_threats_64 ?_
          refine R_ishl (pc := 65) dX10_threats_65 ?_
          refine R_goto (pc := 66) 70 dX10_threats_66 (by decide) ?_
          refine R_ior (pc := 70) dX10_threats_70 ?_
          refine R_istore_n2 (pc := 71) dX10_threats_71 rfl (by decide) ?_
          refine R_iinc3 (pc := 72) dX10_threats_72 rfl (by decide) ?_
          refine R_goto (pc := 75) 14 dX10_threats_75 (by decide) ?_
          rw [nI_s, kf_s]
          have hif : z_th M.2.1 sn e a i = a ||| 1 <<< (nI i &&& 31) := by rw [z_th, if_pos ⟨c_27, Or.inl c_37⟩]
          rw [hif]
          exact ih (i + 1) _ _ _ _ (by omega) q34 (Or.inr ⟨_, rfl⟩)
        · skip
          have d_37 := Int32.not_lt.mp c_37
          have c_37 : ¬ 0 < z_far M.2.1 sn i 0 e := c_37
          refine R_aload_n0 (pc := 40) dX10_threats_40 ?_
          refine R_iload_n3 (pc := 41) dX10_threats_41 ?_
          refine R_iconst (pc := 42) (v := 1) dX10_threats_42 (by decide) ?_
          refine R_iload_n1 (pc := 43) dX10_threats_43 ?_
          refine R_callV3 (pc := 44) (T := TX10) cal_X10_farBy kw989 kw991 kw38 dX10_threats_44 (c_X10_farBy hM34 hn hsn (show i < 8 by omega) he) (by decide) (Nat.le_of_ble_eq_true rfl) (ci := 8) rfl (by assumption) ?_
          rintro _ h44 ⟨rfl, v44, e44⟩
          have q44 : h44 = mput h u (fM M 9 v44) := by rw [mstep_M q34 e44, fM_fM]
          have hM44 := mAt q44
          have mo44 := hM44.o
          have ms44 := hM44.s
          have mb44 := hM44.b
          have mt44 := hM44.t
          have mn44 := hM44.n
          have mc44 := hM44.c
          refine R_if_le (pc := 47) 54 dX10_threats_47 (by decide) (fun c_47 => ?_) (fun c_47 => ?_)
          · skip
            have d_47 := Int32.not_lt.mpr c_47
            have c_47 : ¬ 0 < z_far M.2.1 sn i 1 e := Int32.not_lt.mpr c_47
            refine R_iconst (pc := 54) (v := 0) dX10_threats_54 (by decide) ?_
            refine R_istore4 (pc := 55) dX10_threats_55 rfl (by decide) ?_
            refine R_iload_n2 (pc := 57) dX10_threats_57 ?_
            refine R_iload4 (pc := 58) dX10_threats_58 ?_
            refine R_if_eq (pc := 60) 69 dX10_threats_60 (by decide) (fun _ => ?_) (fun c0 => False.elim (by revert c0; decide))
            refine R_iconst (pc := 69) (v := 0) dX10_threats_69 (by decide) ?_
            refine R_ior (pc := 70) dX10_threats_70 ?_
            refine R_istore_n2 (pc := 71) dX10_threats_71 rfl (by decide) ?_
            refine R_iinc3 (pc := 72) dX10_threats_72 rfl (by decide) ?_
            refine R_goto (pc := 75) 14 dX10_threats_75 (by decide) ?_
            rw [nI_s, kf_s]
            have hif : z_th M.2.1 sn e a i = a ||| 0 := by rw [z_th, if_neg (fun z => z.2.elim c_37 c_47)]
            rw [hif]
            exact ih (i + 1) _ _ _ _ (by omega) q44 (Or.inr ⟨_, rfl⟩)
          · skip
            have d_47 := Int32.not_le.mp c_47
            have c_47 : 0 < z_far M.2.1 sn i 1 e := Int32.not_le.mp c_47
            refine R_iconst (pc := 50) (v := 1) dX10_threats_50 (by decide) ?_
            refine R_goto (pc := 51) 55 dX10_threats_51 (by decide) ?_
            refine R_istore4 (pc := 55) dX10_threats_55 rfl (by decide) ?_
            refine R_iload_n2 (pc := 57) dX10_threats_57 ?_
            refine R_iload4 (pc := 58) dX10_threats_58 ?_
            refine R_if_eq (pc := 60) 69 dX10_threats_60 (by decide) (fun c0 => False.elim (by revert c0; decide)) (fun _ => ?_)
            refine R_iconst (pc := 63) (v := 1) dX10_threats_63 (by decide) ?_
            refine R_iload_n3 (pc := 64) dX10_threats_64 ?_
            refine R_ishl (pc := 65) dX10_threats_65 ?_
            refine R_goto (pc := 66) 70 dX10_threats_66 (by decide) ?_
            refine R_ior (pc := 70) dX10_threats_70 ?_
            refine R_istore_n2 (pc := 71) dX10_threats_71 rfl (by decide) ?_
            refine R_iinc3 (pc := 72) dX10_threats_72 rfl (by decide) ?_
            refine R_goto (pc := 75) 14 dX10_threats_75 (by decide) ?_
            rw [nI_s, kf_s]
            have hif : z_th M.2.1 sn e a i = a ||| 1 <<< (nI i &&& 31) := by rw [z_th, if_pos ⟨c_27, Or.inr c_47⟩]
            rw [hif]
            exact ih (i + 1) _ _ _ _ (by omega) q44 (Or.inr ⟨_, rfl⟩)
    · skip
      refine R_iload_n3 (pc := 14) dX10_threats_14 ?_
      refine R_aload_n0 (pc := 15) dX10_threats_15 ?_
      refine G_X10_7 (pc := 16) dX10_threats_16 (by assumption) ?_
      refine R_bipush (pc := 19) (v := 10) dX10_threats_19 (by decide) ?_
      refine R_iald (pc := 21) dX10_threats_21 (by assumption) (in_n (i := 10) (by decide) (by decide)) ?_
      rw [show ((10 : Int32)).toNatClampNeg = 10 from rfl]
      rw [show (fM M 9 v).2.1 10 = nI sn from hsn]
      refine R_icmp_ge (pc := 22) 78 dX10_threats_22 (by decide) (fun c_22 => absurd c_22 (nI_ge (show i < sn by omega) (by omega))) (fun c_22 => ?_)
      refine R_iload_n3 (pc := 25) dX10_threats_25 ?_
      refine R_iload_n1 (pc := 26) dX10_threats_26 ?_
      refine R_icmp_eq (pc := 27) 54 dX10_threats_27 (by decide) (fun c_27 => ?_) (fun c_27 => ?_)
      · skip
        refine R_iconst (pc := 54) (v := 0) dX10_threats_54 (by decide) ?_
        refine R_istore4 (pc := 55) dX10_threats_55 rfl (by decide) ?_
        refine R_iload_n2 (pc := 57) dX10_threats_57 ?_
        refine R_iload4 (pc := 58) dX10_threats_58 ?_
        refine R_if_eq (pc := 60) 69 dX10_threats_60 (by decide) (fun _ => ?_) (fun c0 => False.elim (by revert c0; decide))
        refine R_iconst (pc := 69) (v := 0) dX10_threats_69 (by decide) ?_
        refine R_ior (pc := 70) dX10_threats_70 ?_
        refine R_istore_n2 (pc := 71) dX10_threats_71 rfl (by decide) ?_
        refine R_iinc3 (pc := 72) dX10_threats_72 rfl (by decide) ?_
        refine R_goto (pc := 75) 14 dX10_threats_75 (by decide) ?_
        rw [nI_s, kf_s]
        have hif : z_th M.2.1 sn e a i = a ||| 0 := by rw [z_th, if_neg (fun z => z.1 c_27)]
        rw [hif]
        exact ih (i + 1) _ _ _ _ (by omega) q1 (Or.inr ⟨_, rfl⟩)
      · skip
        refine R_aload_n0 (pc := 30) dX10_threats_30 ?_
        refine R_iload_n3 (pc := 31) dX10_threats_31 ?_
        refine R_iconst (pc := 32) (v := 0) dX10_threats_32 (by decide) ?_
        refine R_iload_n1 (pc := 33) dX10_threats_33 ?_
        refine R_callV3 (pc := 34) (T := TX10) cal_X10_farBy kw989 kw991 kw38 dX10_threats_34 (c_X10_farBy hM1 hn hsn (show i < 8 by omega) he) (by decide) (Nat.le_of_ble_eq_true rfl) (ci := 8) rfl (by assumption) ?_
        rintro _ h34 ⟨rfl, v34, e34⟩
        have q34 : h34 = mput h u (fM M 9 v34) := by rw [mstep_M q1 e34, fM_fM]
        have hM34 := mAt q34
        have mo34 := hM34.o
        have ms34 := hM34.s
        have mb34 := hM34.b
        have mt34 := hM34.t
        have mn34 := hM34.n
        have mc34 := hM34.c
        refine R_if_gt (pc := 37) 50 dX10_threats_37 (by decide) (fun c_37 => ?_) (fun c_37 => ?_)
        · skip
          have d_37 := Int32.not_le.mpr c_37
          have c_37 : 0 < z_far M.2.1 sn i 0 e := c_37
          refine R_iconst (pc := 50) (v := 1) dX10_threats_50 (by decide) ?_
          refine R_goto (pc := 51) 55 dX10_threats_51 (by decide) ?_
          refine R_istore4 (pc := 55) dX10_threats_55 rfl (by decide) ?_
          refine R_iload_n2 (pc := 57) dX10_threats_57 ?_
          refine R_iload4 (pc := 58) dX10_threats_58 ?_
          refine R_if_eq (pc := 60) 69 dX10_threats_60 (by decide) (fun c0 => False.elim (by revert c0; decide)) (fun _ => ?_)
          refine R_iconst (pc := 63) (v := 1) dX10_threats_63 (by decide) ?_
          refine R_iload_n3 (pc := 64) dX10_threats_64 ?_
          refine R_ishl (pc := 65) dX10_threats_65 ?_
          refine R_goto (pc := 66) 70 dX10_threats_66 (by decide) ?_
          refine R_ior (pc := 70) dX10_threats_70 ?_
          refine R_istore_n2 (pc := 71) dX10_threats_71 rfl (by decide) ?_
          refine R_iinc3 (pc := 72) dX10_threats_72 rfl (by decide) ?_
          refine R_goto (pc := 75) 14 dX10_threats_75 (by decide) ?_
          rw [nI_s, kf_s]
          have hif : z_th M.2.1 sn e a i = a ||| 1 <<< (nI i &&& 31) := by rw [z_th, if_pos ⟨c_27, Or.inl c_37⟩]
          rw [hif]
          exact ih (i + 1) _ _ _ _ (by omega) q34 (Or.inr ⟨_, rfl⟩)
        · skip
          have d_37 := Int32.not_lt.mp c_37
          have c_37 : ¬ 0 < z_far M.2.1 sn i 0 e := c_37
          refine R_aload_n0 (pc := 40) dX10_threats_40 ?_
          refine R_iload_n3 (pc := 41) dX10_threats_41 ?_
          refine R_iconst (pc := 42) (v := 1) dX10_threats_42 (by decide) ?_
          refine R_iload_n1 (pc := 43) dX10_threats_43 ?_
          refine R_callV3 (pc := 44) (T := TX10) cal_X10_farBy kw989 kw991 kw38 dX10_threats_44 (c_X10_farBy hM34 hn hsn (show i < 8 by omega) he) (by decide) (Nat.le_of_ble_eq_true rfl) (ci := 8) rfl (by assumption) ?_
          rintro _ h44 ⟨rfl, v44, e44⟩
          have q44 : h44 = mput h u (fM M 9 v44) := by rw [mstep_M q34 e44, fM_fM]
          have hM44 := mAt q44
          have mo44 := hM44.o
          have ms44 := hM44.s
          have mb44 := hM44.b
          have mt44 := hM44.t
          have mn44 := hM44.n
          have mc44 := hM44.c
          refine R_if_le (pc := 47) 54 dX10_threats_47 (by decide) (fun c_47 => ?_) (fun c_47 => ?_)
          · skip
            have d_47 := Int32.not_lt.mpr c_47
            have c_47 : ¬ 0 < z_far M.2.1 sn i 1 e := Int32.not_lt.mpr c_47
            refine R_iconst (pc := 54) (v := 0) dX10_threats_54 (by decide) ?_
            refine R_istore4 (pc := 55) dX10_threats_55 rfl (by decide) ?_
            refine R_iload_n2 (pc := 57) dX10_threats_57 ?_
            refine R_iload4 (pc := 58) dX10_threats_58 ?_
            refine R_if_eq (pc := 60) 69 dX10_threats_60 (by decide) (fun _ => ?_) (fun c0 => False.elim (by revert c0; decide))
            refine R_iconst (pc := 69) (v := 0) dX10_threats_69 (by decide) ?_
            refine R_ior (pc := 70) dX10_threats_70 ?_
            refine R_istore_n2 (pc := 71) dX10_threats_71 rfl (by decide) ?_
            refine R_iinc3 (pc := 72) dX10_threats_72 rfl (by decide) ?_
            refine R_goto (pc := 75) 14 dX10_threats_75 (by decide) ?_
            rw [nI_s, kf_s]
            have hif : z_th M.2.1 sn e a i = a ||| 0 := by rw [z_th, if_neg (fun z => z.2.elim c_37 c_47)]
            rw [hif]
            exact ih (i + 1) _ _ _ _ (by omega) q44 (Or.inr ⟨_, rfl⟩)
          · skip
            have d_47 := Int32.not_le.mp c_47
            have c_47 : 0 < z_far M.2.1 sn i 1 e := Int32.not_le.mp c_47
            refine R_iconst (pc := 50) (v := 1) dX10_threats_50 (by decide) ?_
            refine R_goto (pc := 51) 55 dX10_threats_51 (by decide) ?_
            refine R_istore4 (pc := 55) dX10_threats_55 rfl (by decide) ?_
            refine R_iload_n2 (pc := 57) dX10_threats_57 ?_
            refine R_iload4 (pc := 58) dX10_threats_58 ?_
            refine R_if_eq (pc := 60) 69 dX10_threats_60 (by decide) (fun c0 => False.elim (by revert c0; decide)) (fun _ => ?_)
            refine R_iconst (pc := 63) (v := 1) dX10_threats_63 (by decide) ?_
            refine R_iload_n3 (pc := 64) dX10_threats_64 ?_
            refine R_ishl (pc := 65) dX10_threats_65 ?_
            refine R_goto (pc := 66) 70 dX10_threats_66 (by decide) ?_
            refine R_ior (pc := 70) dX10_threats_70 ?_
            refine R_istore_n2 (pc := 71) dX10_threats_71 rfl (by decide) ?_
            refine R_iinc3 (pc := 72) dX10_threats_72 rfl (by decide) ?_
            refine R_goto (pc := 75) 14 dX10_threats_75 (by decide) ?_
            rw [nI_s, kf_s]
            have hif : z_th M.2.1 sn e a i = a ||| 1 <<< (nI i &&& 31) := by rw [z_th, if_pos ⟨c_27, Or.inr c_47⟩]
            rw [hif]
            exact ih (i + 1) _ _ _ _ (by omega) q44 (Or.inr ⟨_, rfl⟩)

set_option maxHeartbeats 4000000 in
set_option maxRecDepth 100000 in
theorem c_X10_threats (hM : MAt h u M) {sn : Nat} (hn : sn ≤ 8) (hsn : M.2.1 10 = nI sn) {x : Int32} : Spec l D cA N0 m_X10_threats 4 0 0 [.ref u, .int x] h (fun r h' => r = some (.int (zp_threats M.2.1 sn x)) ∧ ∃ M2, h' = mput h u M2 ∧ Ms M M2) := by
  refine Spec.of (L := [some (.ref u), some (.int x), none, none, none]) (by decide) rfl (Nat.le_of_ble_eq_true rfl) ?_
  have q0 : h = mput h u M := (mput_self hM).symm
  have mo0 := hM.o
  have ms0 := hM.s
  have mb0 := hM.b
  have mt0 := hM.t
  have mn0 := hM.n
  have mc0 := hM.c
  refine R_aload_n0 (pc := 0) dX10_threats_0 ?_
  refine R_iload_n1 (pc := 1) dX10_threats_1 ?_
  refine R_callV1 (pc := 2) (T := TX10) cal_X10_isShip kw958 kw960 kw32 dX10_threats_2 (c_X10_isShip hM hn hsn) (by decide) (Nat.le_of_ble_eq_true rfl) (ci := 8) rfl (by assumption) ?_
  rintro _ _ ⟨rfl, rfl⟩
  refine R_ifb_ne (pc := 5) 10 dX10_threats_5 (by decide) (fun c_5 => ?_) (fun c_5 => ?_)
  · skip
    obtain ⟨i, hsi, ei⟩ := i_nI c_5.1 c_5.2 (by omega)
    have hi : i < 8 := by omega
    have hci : (nI i).toNatClampNeg = i := nI_clamp (by omega)
    subst ei
    refine R_iconst (pc := 10) (v := 0) dX10_threats_10 (by decide) ?_
    refine R_istore_n2 (pc := 11) dX10_threats_11 rfl (by decide) ?_
    refine R_iconst (pc := 12) (v := 0) dX10_threats_12 (by decide) ?_
    refine R_istore_n3 (pc := 13) dX10_threats_13 rfl (by decide) ?_
    refine R_post (fun r h9 q9 => ?_) (L_X10_threats hM hn hsn hi sn 0 0 _ _ none (Nat.zero_add sn) (q_far hM) (Or.inl rfl))
    obtain ⟨q9a, v9, q9b⟩ := q9
    exact ⟨by rw [q9a, zp_threats, if_pos c_5, hci], _, q9b, Ms.f9 _ _⟩
  · skip
    refine R_iconst (pc := 8) (v := (-1)) dX10_threats_8 (by decide) ?_
    refine R_iret (pc := 9) rfl rfl dX10_threats_9 ?_
    exact ⟨by rw [zp_threats, if_neg (fun z => c_5 z)], _, q0, Ms.rf M⟩

set_option maxHeartbeats 4000000 in
set_option maxRecDepth 100000 in
theorem L_X10_strength (hM : MAt h u M) {sn : Nat} (hn : sn ≤ 8) (hsn : M.2.1 10 = nI sn) {own c : Int32} : ∀ (n i : Nat), i + n = sn → True → ∀ a : Int32, RunM l D cA N0 m_X10_strength 3 0 0 (fun r h' => r = some (.int (kf (z_8th M.2.1 own) a i n / 8)) ∧ h' = h) h 0 0 20 [some (.ref u), some (.int c), some (.int own), some (.int a), some (.int (nI i))] [] := by
  intro n
  induction n with
  | zero =>
    intro i hin hinv a
    have hie : i = sn := by omega
    subst hie
    have q0 : h = mput h u M := (mput_self hM).symm
    have mo0 := hM.o
    have ms0 := hM.s
    have mb0 := hM.b
    have mt0 := hM.t
    have mn0 := hM.n
    have mc0 := hM.c
    refine R_iload4 (pc := 20) dX10_strength_20 ?_
    refine R_aload_n0 (pc := 22) dX10_strength_22 ?_
    refine G_X10_7 (pc := 23) dX10_strength_23 (by assumption) ?_
    refine R_bipush (pc := 26) (v := 10) dX10_strength_26 (by decide) ?_
    refine R_iald (pc := 28) dX10_strength_28 (by assumption) (in_n (i := 10) (by decide) (by decide)) ?_
    rw [show ((10 : Int32)).toNatClampNeg = 10 from rfl]
    rw [hsn]
    refine R_icmp_ge (pc := 29) 91 dX10_strength_29 (by decide) (fun c_29 => ?_) (fun c_29 => absurd (Int32.le_refl _) c_29)
    refine R_iload_n3 (pc := 91) dX10_strength_91 ?_
    refine R_bipush (pc := 92) (v := 8) dX10_strength_92 (by decide) ?_
    refine R_idiv (pc := 94) dX10_strength_94 (by decide) ?_
    refine R_iret (pc := 95) rfl rfl dX10_strength_95 ?_
    exact ⟨rfl, rfl⟩
  | succ n ih =>
    intro i hin hinv a
    have hlt : i < sn := by omega
    have q0 : h = mput h u M := (mput_self hM).symm
    have mo0 := hM.o
    have ms0 := hM.s
    have mb0 := hM.b
    have mt0 := hM.t
    have mn0 := hM.n
    have mc0 := hM.c
    refine R_iload4 (pc := 20) dX10_strength_20 ?_
    refine R_aload_n0 (pc := 22) dX10_strength_22 ?_
    refine G_X10_7 (pc := 23) dX10_strength_23 (by assumption) ?_
    refine R_bipush (pc := 26) (v := 10) dX10_strength_26 (by decide) ?_
    refine R_iald (pc := 28) dX10_strength_28 (by assumption) (in_n (i := 10) (by decide) (by decide)) ?_
    rw [show ((10 : Int32)).toNatClampNeg = 10 from rfl]
    rw [hsn]
    refine R_icmp_ge (pc := 29) 91 dX10_strength_29 (by decide) (fun c_29 => absurd c_29 (nI_ge hlt (by omega))) (fun c_29 => ?_)
    refine R_iload_n3 (pc := 32) dX10_strength_32 ?_
    refine R_iload_n2 (pc := 33) dX10_strength_33 ?_
    refine R_iload4 (pc := 34) dX10_strength_34 ?_
    refine R_callS2 (pc := 36) cal_X10_has kw943 kw944 dX10_strength_36 c_X10_has (by decide) (Nat.le_of_ble_eq_true rfl) ?_
    rintro _ _ ⟨rfl, rfl⟩
    refine R_ifb_eq (pc := 39) 82 dX10_strength_39 (by decide) (fun c_39 => ?_) (fun c_39 => ?_)
    · skip
      refine R_iconst (pc := 82) (v := 0) dX10_strength_82 (by decide) ?_
      refine R_iadd (pc := 83) dX10_strength_83 ?_
      refine R_istore_n3 (pc := 84) dX10_strength_84 rfl (by decide) ?_
      refine R_iinc4 (pc := 85) dX10_strength_85 rfl (by decide) ?_
      refine R_goto (pc := 88) 20 dX10_strength_88 (by decide) ?_
      rw [nI_s, kf_s, z_8th, if_neg c_39]
      exact ih (i + 1) (by omega) trivial _
    · skip
      refine R_bipush (pc := 42) (v := 6) dX10_strength_42 (by decide) ?_
      refine R_aload_n0 (pc := 44) dX10_strength_44 ?_
      refine R_iload4 (pc := 45) dX10_strength_45 ?_
      refine R_iconst (pc := 47) (v := 3) dX10_strength_47 (by decide) ?_
      refine R_callV2 (pc := 48) (T := TX10) cal_X10_get kw899 kw901 kw25 dX10_strength_48 (c_X10_get hM (show i < 8 by omega) (k := 3) (by decide)) (by decide) (Nat.le_of_ble_eq_true rfl) (ci := 8) rfl (by assumption) ?_
      rintro _ _ ⟨rfl, rfl⟩
      refine R_imul (pc := 51) dX10_strength_51 ?_
      refine R_iconst (pc := 52) (v := 4) dX10_strength_52 (by decide) ?_
      refine R_aload_n0 (pc := 53) dX10_strength_53 ?_
      refine R_iload4 (pc := 54) dX10_strength_54 ?_
      refine R_iconst (pc := 56) (v := 5) dX10_strength_56 (by decide) ?_
      refine R_callV2 (pc := 57) (T := TX10) cal_X10_get kw899 kw901 kw25 dX10_strength_57 (c_X10_get hM (show i < 8 by omega) (k := 5) (by decide)) (by decide) (Nat.le_of_ble_eq_true rfl) (ci := 8) rfl (by assumption) ?_
      rintro _ _ ⟨rfl, rfl⟩
      refine R_imul (pc := 60) dX10_strength_60 ?_
      refine R_iadd (pc := 61) dX10_strength_61 ?_
      refine R_aload_n0 (pc := 62) dX10_strength_62 ?_
      refine R_iload4 (pc := 63) dX10_strength_63 ?_
      refine R_bipush (pc := 65) (v := 6) dX10_strength_65 (by decide) ?_
      refine R_callV2 (pc := 67) (T := TX10) cal_X10_get kw899 kw901 kw25 dX10_strength_67 (c_X10_get hM (show i < 8 by omega) (k := 6) (by decide)) (by decide) (Nat.le_of_ble_eq_true rfl) (ci := 8) rfl (by assumption) ?_
      rintro _ _ ⟨rfl, rfl⟩
      refine R_aload_n0 (pc := 70) dX10_strength_70 ?_
      refine R_iload4 (pc := 71) dX10_strength_71 ?_
      refine R_iconst (pc := 73) (v := 4) dX10_strength_73 (by decide) ?_
      refine R_callV2 (pc := 74) (T := TX10) cal_X10_get kw899 kw901 kw25 dX10_strength_74 (c_X10_get hM (show i < 8 by omega) (k := 4) (by decide)) (by decide) (Nat.le_of_ble_eq_true rfl) (ci := 8) rfl (by assumption) ?_
      rintro _ _ ⟨rfl, rfl⟩
      refine R_imul (pc := 77) dX10_strength_77 ?_
      refine R_iadd (pc := 78) dX10_strength_78 ?_
      refine R_goto (pc := 79) 83 dX10_strength_79 (by decide) ?_
      refine R_iadd (pc := 83) dX10_strength_83 ?_
      refine R_istore_n3 (pc := 84) dX10_strength_84 rfl (by decide) ?_
      refine R_iinc4 (pc := 85) dX10_strength_85 rfl (by decide) ?_
      refine R_goto (pc := 88) 20 dX10_strength_88 (by decide) ?_
      rw [nI_s, kf_s, z_8th, if_pos c_39]
      exact ih (i + 1) (by omega) trivial _

set_option maxHeartbeats 4000000 in
set_option maxRecDepth 100000 in
theorem c_X10_strength (hM : MAt h u M) {sn : Nat} (hn : sn ≤ 8) (hsn : M.2.1 10 = nI sn) {c : Int32} : Spec l D cA N0 m_X10_strength 3 0 0 [.ref u, .int c] h (fun r h' => r = some (.int (zp_strength M.2.1 sn c)) ∧ ∃ M2, h' = mput h u M2 ∧ Ms M M2) := by
  refine Spec.of (L := [some (.ref u), some (.int c), none, none, none]) (by decide) rfl (Nat.le_of_ble_eq_true rfl) ?_
  have q0 : h = mput h u M := (mput_self hM).symm
  have mo0 := hM.o
  have ms0 := hM.s
  have mb0 := hM.b
  have mt0 := hM.t
  have mn0 := hM.n
  have mc0 := hM.c
  refine R_iload_n1 (pc := 0) dX10_strength_0 ?_
  refine R_callS1 (pc := 1) cal_X10_isCaptain kw919 kw920 dX10_strength_1 c_X10_isCaptain (by decide) (Nat.le_of_ble_eq_true rfl) ?_
  rintro _ _ ⟨rfl, rfl⟩
  refine R_ifb_ne (pc := 4) 9 dX10_strength_4 (by decide) (fun c_4 => ?_) (fun c_4 => ?_)
  · skip
    refine R_aload_n0 (pc := 9) dX10_strength_9 ?_
    refine R_iload_n1 (pc := 10) dX10_strength_10 ?_
    refine R_callV1 (pc := 11) (T := TX10) cal_X10_afloat kw1108 kw1110 kw52 dX10_strength_11 (c_X10_afloat hM hn hsn) (by decide) (Nat.le_of_ble_eq_true rfl) (ci := 8) rfl (by assumption) ?_
    rintro _ _ ⟨rfl, rfl⟩
    refine R_istore_n2 (pc := 14) dX10_strength_14 rfl (by decide) ?_
    refine R_iconst (pc := 15) (v := 0) dX10_strength_15 (by decide) ?_
    refine R_istore_n3 (pc := 16) dX10_strength_16 rfl (by decide) ?_
    refine R_iconst (pc := 17) (v := 0) dX10_strength_17 (by decide) ?_
    refine R_istore4 (pc := 18) dX10_strength_18 rfl (by decide) ?_
    refine R_post (fun r h9 q9 => ?_) (L_X10_strength hM hn hsn sn 0 (Nat.zero_add sn) trivial 0)
    rw [zp_strength, if_pos c_4]
    exact ⟨q9.1, M, q9.2.trans (mput_self hM).symm, Ms.rf M⟩
  · skip
    refine R_iconst (pc := 7) (v := (-1)) dX10_strength_7 (by decide) ?_
    refine R_iret (pc := 8) rfl rfl dX10_strength_8 ?_
    exact ⟨by rw [zp_strength, if_neg (fun z => c_4 z)], _, q0, Ms.rf M⟩

set_option maxHeartbeats 4000000 in
set_option maxRecDepth 100000 in
theorem c_X10_windBy (hM : MAt h u M) {x y : Int32} : Spec l D cA N0 m_X10_windBy 1 0 0 [.ref u, .int x, .int y] h (fun r h' => r = some (.int (zp_wind M.2.1 x y)) ∧ h' = h) := by
  refine Spec.of (L := [some (.ref u), some (.int x), some (.int y)]) (by decide) rfl (Nat.le_of_ble_eq_true rfl) ?_
  have q0 : h = mput h u M := (mput_self hM).symm
  have mo0 := hM.o
  have ms0 := hM.s
  have mb0 := hM.b
  have mt0 := hM.t
  have mn0 := hM.n
  have mc0 := hM.c
  refine R_iload_n1 (pc := 0) dX10_windBy_0 ?_
  refine R_i2l (pc := 1) dX10_windBy_1 ?_
  refine R_lconst (pc := 2) (v := 0) dX10_windBy_2 (by decide) ?_
  refine R_ldc2 (pc := 3) dX10_windBy_3 kw922 ?_
  refine R_callS3 (pc := 6) cal_X10_in kw892 kw893 dX10_windBy_6 (c_X10_in rfl (lo := 0) (by decide) (hi := 5) (by decide)) (by decide) (Nat.le_of_ble_eq_true rfl) ?_
  rintro _ _ ⟨rfl, rfl⟩
  refine R_ifb_eq (pc := 9) 24 dX10_windBy_9 (by decide) (fun c_9 => ?_) (fun c_9 => ?_)
  · skip
    refine R_iconst (pc := 24) (v := (-1)) dX10_windBy_24 (by decide) ?_
    refine R_iret (pc := 25) rfl rfl dX10_windBy_25 ?_
    exact ⟨congrArg (fun z => some (Value.int z)) (by simp (decide := true) only [zp_wind, c_9, reduceCtorEq, if_true, if_false, reduceIte, and_true, true_and, and_false, false_and, and_self, or_true, true_or, or_false, false_or, or_self, not_true, not_false_iff]), rfl⟩
  · skip
    refine R_iload_n2 (pc := 12) dX10_windBy_12 ?_
    refine R_i2l (pc := 13) dX10_windBy_13 ?_
    refine R_lconst (pc := 14) (v := 0) dX10_windBy_14 (by decide) ?_
    refine R_ldc2 (pc := 15) dX10_windBy_15 kw922 ?_
    refine R_callS3 (pc := 18) cal_X10_in kw892 kw893 dX10_windBy_18 (c_X10_in rfl (lo := 0) (by decide) (hi := 5) (by decide)) (by decide) (Nat.le_of_ble_eq_true rfl) ?_
    rintro _ _ ⟨rfl, rfl⟩
    refine R_ifb_ne (pc := 21) 26 dX10_windBy_21 (by decide) (fun c_21 => ?_) (fun c_21 => ?_)
    · skip
      refine R_bipush (pc := 26) (v := 10) dX10_windBy_26 (by decide) ?_
      refine R_aload_n0 (pc := 28) dX10_windBy_28 ?_
      refine G_X10_7 (pc := 29) dX10_windBy_29 (by assumption) ?_
      refine R_iconst (pc := 32) (v := 2) dX10_windBy_32 (by decide) ?_
      refine R_iald (pc := 33) dX10_windBy_33 (by assumption) (in_n (i := 2) (by decide) (by decide)) ?_
      rw [show ((2 : Int32)).toNatClampNeg = 2 from rfl]
      refine R_iload_n1 (pc := 34) dX10_windBy_34 ?_
      refine R_iadd (pc := 35) dX10_windBy_35 ?_
      refine R_iload_n2 (pc := 36) dX10_windBy_36 ?_
      refine R_iadd (pc := 37) dX10_windBy_37 ?_
      refine R_bipush (pc := 38) (v := 6) dX10_windBy_38 (by decide) ?_
      refine R_irem (pc := 40) dX10_windBy_40 (by decide) ?_
      refine R_imul (pc := 41) dX10_windBy_41 ?_
      refine R_iload_n1 (pc := 42) dX10_windBy_42 ?_
      refine R_iload_n2 (pc := 43) dX10_windBy_43 ?_
      refine R_iadd (pc := 44) dX10_windBy_44 ?_
      refine R_iconst (pc := 45) (v := 3) dX10_windBy_45 (by decide) ?_
      refine R_irem (pc := 46) dX10_windBy_46 (by decide) ?_
      refine R_iadd (pc := 47) dX10_windBy_47 ?_
      refine R_iconst (pc := 48) (v := 1) dX10_windBy_48 (by decide) ?_
      refine R_iadd (pc := 49) dX10_windBy_49 ?_
      refine R_iret (pc := 50) rfl rfl dX10_windBy_50 ?_
      exact ⟨congrArg (fun z => some (Value.int z)) (by simp (decide := true) only [zp_wind, c_9, c_21, reduceCtorEq, if_true, if_false, reduceIte, and_true, true_and, and_false, false_and, and_self, or_true, true_or, or_false, false_or, or_self, not_true, not_false_iff]), rfl⟩
    · skip
      refine R_iconst (pc := 24) (v := (-1)) dX10_windBy_24 (by decide) ?_
      refine R_iret (pc := 25) rfl rfl dX10_windBy_25 ?_
      exact ⟨congrArg (fun z => some (Value.int z)) (by simp (decide := true) only [zp_wind, c_9, c_21, reduceCtorEq, if_true, if_false, reduceIte, and_true, true_and, and_false, false_and, and_self, or_true, true_or, or_false, false_or, or_self, not_true, not_false_iff]), rfl⟩

end LV28
