/-! THE REFERENCE: sail, fire, grapple, cut, repair -/
section LV33
variable {l : Launch} {D : va_G} {cA : Nat → ClassId} {N0 : Nat} {h : AH} {u : Nat} {M : Mm}
theorem q_cast {h1 h2 : AH} {u : Nat} {M M2 : Mm} (q : h1 = mput h2 u M) (e : M2 = M) : h1 = mput h2 u M2 := by rw [e]; exact q
theorem pos_of_sz {p : Int32} (h : ¬ z_size p = 0) : ∃ q, q < 2 ^ 31 ∧ p = nI q ∧ p.toNatClampNeg = q := by
  by_cases hp : 0 < p
  · exact pos_nI hp
  · exact absurd (if_neg hp) h
theorem c_X10_goesX {sn i k : Nat} {p : Int32} {pn : Nat} (hM : MAt h u M) (hn : sn ≤ 8) (hsn : M.2.1 10 = nI sn) (hi : i < 8) (hp : pn < 2 ^ 31) (ep : p = nI pn) (hk : k ≤ 9) (hk1 : 1 ≤ k) : Spec l D cA N0 m_X10_goes 3 0 0 [.ref u, .int (nI i), .int p, .int (nI k)] h (fun r h' => r = some (.int (bI ((z_go M.2.1 sn i p.toNatClampNeg k (gx M.2.1 i 1) (gx M.2.1 i 2)).1 = true))) ∧ h' = mput h u (gM M (z_go M.2.1 sn i p.toNatClampNeg k (gx M.2.1 i 1) (gx M.2.1 i 2)).2.1 (z_go M.2.1 sn i p.toNatClampNeg k (gx M.2.1 i 1) (gx M.2.1 i 2)).2.2)) := by
  subst ep
  rw [nI_clamp hp]
  exact c_X10_goes hM hn hsn hi hp hk hk1
set_option maxHeartbeats 4000000 in
set_option maxRecDepth 100000 in
theorem c_X10_sail (hM : MAt h u M) {sn : Nat} (hn : sn ≤ 8) (hsn : M.2.1 10 = nI sn) {m : Nat} (hm : m ≤ 6) (hmu : M.1 3 = nI m) {x p : Int32} : Spec l D cA N0 m_X10_sail 4 0 0 [.ref u, .int x, .int p] h (fun r h' => r = some (.int (zw_sail M sn m x p).1) ∧ ∃ M2, h' = mput h u M2 ∧ Ms (zw_sail M sn m x p).2 M2) := by
  refine Spec.of (L := [some (.ref u), some (.int x), some (.int p), none]) (by decide) rfl (Nat.le_of_ble_eq_true rfl) ?_
  have q0 : h = mput h u M := (mput_self hM).symm
  have mo0 := hM.o
  have ms0 := hM.s
  have mb0 := hM.b
  have mt0 := hM.t
  have mn0 := hM.n
  have mc0 := hM.c
  refine R_iload_n2 (pc := 0) dX10_sail_0 ?_
  refine R_callS1 (pc := 1) cal_X10_sizeOf kw954 kw955 dX10_sail_1 c_X10_sizeOf (by decide) (Nat.le_of_ble_eq_true rfl) ?_
  rintro _ _ ⟨rfl, rfl⟩
  refine R_istore_n3 (pc := 4) dX10_sail_4 rfl (by decide) ?_
  refine R_aload_n0 (pc := 5) dX10_sail_5 ?_
  refine R_iload_n1 (pc := 6) dX10_sail_6 ?_
  refine R_callV1 (pc := 7) (T := TX10) cal_X10_isShip kw958 kw960 kw32 dX10_sail_7 (c_X10_isShip hM hn hsn) (by decide) (Nat.le_of_ble_eq_true rfl) (ci := 8) rfl (by assumption) ?_
  rintro _ _ ⟨rfl, rfl⟩
  refine R_ifb_eq (pc := 10) 17 dX10_sail_10 (by decide) (fun c_10 => ?_) (fun c_10 => ?_)
  · skip
    refine R_iconst (pc := 17) (v := (-1)) dX10_sail_17 (by decide) ?_
    refine R_iret (pc := 18) rfl rfl dX10_sail_18 ?_
    exact ⟨by rw [zw_sail, if_neg (fun z => c_10 z.1)], _, q0, by rw [zw_sail, if_neg (fun z => c_10 z.1)]; exact Ms.rf M⟩
  · skip
    refine R_iload_n3 (pc := 13) dX10_sail_13 ?_
    refine R_if_ne (pc := 14) 19 dX10_sail_14 (by decide) (fun c_14 => ?_) (fun c_14 => ?_)
    · skip
      have hz : ¬ z_size p = 0 := fun z => c_14 (by rw [z]; rfl)
      obtain ⟨i, hsi, ei⟩ := i_nI c_10.1 c_10.2 (by omega)
      have hi : i < 8 := by omega
      have hci : (nI i).toNatClampNeg = i := nI_clamp (by omega)
      subst ei
      obtain ⟨pn, hpn, epn, epc⟩ := pos_of_sz hz
      have hsz := z_sz_le p
      refine R_aload_n0 (pc := 19) dX10_sail_19 ?_
      refine G_X10_7 (pc := 20) dX10_sail_20 (by assumption) ?_
      refine R_iconst (pc := 23) (v := 1) dX10_sail_23 (by decide) ?_
      refine R_iald (pc := 24) dX10_sail_24 (by assumption) (in_n (i := 1) (by decide) (by decide)) ?_
      rw [show ((1 : Int32)).toNatClampNeg = 1 from rfl]
      refine R_if_eq (pc := 25) 69 dX10_sail_25 (by decide) (fun c_25 => ?_) (fun c_25 => ?_)
      · skip
        refine R_bipush (pc := 69) (v := (-2)) dX10_sail_69 (by decide) ?_
        refine R_iret (pc := 71) rfl rfl dX10_sail_71 ?_
        exact ⟨by rw [zw_sail, if_pos ⟨c_10, hz⟩, hci, zw_sail2, if_neg (fun z => z.1 c_25)], _, q0, by rw [zw_sail, if_pos ⟨c_10, hz⟩, hci, zw_sail2, if_neg (fun z => z.1 c_25)]; exact Ms.rf M⟩
      · skip
        refine R_aload_n0 (pc := 28) dX10_sail_28 ?_
        refine R_iload_n1 (pc := 29) dX10_sail_29 ?_
        refine R_callV1 (pc := 30) (T := TX10) cal_X10_floats kw962 kw964 kw33 dX10_sail_30 (c_X10_floats hM (by assumption)) (by decide) (Nat.le_of_ble_eq_true rfl) (ci := 8) rfl (by assumption) ?_
        rintro _ _ ⟨rfl, rfl⟩
        refine R_ifb_eq (pc := 33) 69 dX10_sail_33 (by decide) (fun c_33 => ?_) (fun c_33 => ?_)
        · skip
          refine R_bipush (pc := 69) (v := (-2)) dX10_sail_69 (by decide) ?_
          refine R_iret (pc := 71) rfl rfl dX10_sail_71 ?_
          exact ⟨by rw [zw_sail, if_pos ⟨c_10, hz⟩, hci, zw_sail2, if_neg (fun z => c_33 z.2.1)], _, q0, by rw [zw_sail, if_pos ⟨c_10, hz⟩, hci, zw_sail2, if_neg (fun z => c_33 z.2.1)]; exact Ms.rf M⟩
        · skip
          refine R_aload_n0 (pc := 36) dX10_sail_36 ?_
          refine R_iload_n1 (pc := 37) dX10_sail_37 ?_
          refine R_bipush (pc := 38) (v := 10) dX10_sail_38 (by decide) ?_
          refine R_callV2 (pc := 40) (T := TX10) cal_X10_get kw899 kw901 kw25 dX10_sail_40 (c_X10_get hM (by assumption) (k := 10) (by decide)) (by decide) (Nat.le_of_ble_eq_true rfl) (ci := 8) rfl (by assumption) ?_
          rintro _ _ ⟨rfl, rfl⟩
          refine R_iconst (pc := 43) (v := 0) dX10_sail_43 (by decide) ?_
          refine R_callS2 (pc := 44) cal_X10_has kw943 kw944 dX10_sail_44 c_X10_has (by decide) (Nat.le_of_ble_eq_true rfl) ?_
          rintro _ _ ⟨rfl, rfl⟩
          refine R_ifb_ne (pc := 47) 69 dX10_sail_47 (by decide) (fun c_47 => ?_) (fun c_47 => ?_)
          · skip
            refine R_bipush (pc := 69) (v := (-2)) dX10_sail_69 (by decide) ?_
            refine R_iret (pc := 71) rfl rfl dX10_sail_71 ?_
            exact ⟨by rw [zw_sail, if_pos ⟨c_10, hz⟩, hci, zw_sail2, if_neg (fun z => z.2.2.1 c_47)], _, q0, by rw [zw_sail, if_pos ⟨c_10, hz⟩, hci, zw_sail2, if_neg (fun z => z.2.2.1 c_47)]; exact Ms.rf M⟩
          · skip
            refine R_iload_n3 (pc := 50) dX10_sail_50 ?_
            refine R_aload_n0 (pc := 51) dX10_sail_51 ?_
            refine R_iload_n1 (pc := 52) dX10_sail_52 ?_
            refine R_callV1 (pc := 53) (T := TX10) cal_X10_stepsNow kw966 kw968 kw34 dX10_sail_53 (c_X10_stepsNow hM (by assumption)) (by decide) (Nat.le_of_ble_eq_true rfl) (ci := 8) rfl (by assumption) ?_
            rintro _ _ ⟨rfl, rfl⟩
            refine R_icmp_gt (pc := 56) 69 dX10_sail_56 (by decide) (fun c_56 => ?_) (fun c_56 => ?_)
            · skip
              have d_56 := Int32.not_le.mpr c_56
              refine R_bipush (pc := 69) (v := (-2)) dX10_sail_69 (by decide) ?_
              refine R_iret (pc := 71) rfl rfl dX10_sail_71 ?_
              exact ⟨by rw [zw_sail, if_pos ⟨c_10, hz⟩, hci, zw_sail2, if_neg (fun z => Int32.not_le.mpr c_56 z.2.2.2.1)], _, q0, by rw [zw_sail, if_pos ⟨c_10, hz⟩, hci, zw_sail2, if_neg (fun z => Int32.not_le.mpr c_56 z.2.2.2.1)]; exact Ms.rf M⟩
            · skip
              have d_56 := Int32.not_lt.mp c_56
              have d56 : nI (z_size p) ≤ z_steps M.2.1 i (M.2.1 2) (M.2.1 3) := d_56
              refine R_aload_n0 (pc := 59) dX10_sail_59 ?_
              refine R_iload_n1 (pc := 60) dX10_sail_60 ?_
              refine R_iload_n2 (pc := 61) dX10_sail_61 ?_
              refine R_iload_n3 (pc := 62) dX10_sail_62 ?_
              refine R_callV3 (pc := 63) (T := TX10) cal_X10_goes kw974 kw976 kw36 dX10_sail_63 (c_X10_goesX hM hn hsn hi hpn epn (show z_size p ≤ 9 by omega) (show 1 ≤ z_size p by omega)) (by decide) (Nat.le_of_ble_eq_true rfl) (ci := 8) rfl (by assumption) ?_
              rintro _ h63 ⟨rfl, e63⟩
              have q63 : h63 = mput _ u (gM M (z_goR M.2.1 sn i p).2.1 (z_goR M.2.1 sn i p).2.2) := mstep_M q0 e63
              have hM63 := mAt q63
              have mo63 := hM63.o
              have ms63 := hM63.s
              have mb63 := hM63.b
              have mt63 := hM63.t
              have mn63 := hM63.n
              have mc63 := hM63.c
              refine R_ifb_ne (pc := 66) 72 dX10_sail_66 (by decide) (fun c_66 => ?_) (fun c_66 => ?_)
              · skip
                have c_66 : (z_goR M.2.1 sn i p).1 = true := c_66
                refine R_aload_n0 (pc := 72) dX10_sail_72 ?_
                refine R_callV0 (pc := 73) (T := TX10) cal_X10_act kw903 kw905 kw26 dX10_sail_73 (c_X10_act hM63 hm hmu) (by decide) (Nat.le_of_ble_eq_true rfl) (ci := 8) rfl (by assumption) ?_
                rintro _ h73 ⟨rfl, e73⟩
                obtain ⟨F2, b2, hact, hF2⟩ := z_act_form (gM M (z_goR M.2.1 sn i p).2.1 (z_goR M.2.1 sn i p).2.2) m
                rw [hact] at e73
                have q73 : h73 = mput _ u (F2, M.2.1, b2, M.2.2.2) := mstep_M q63 e73
                have hM73 := mAt q73
                have mo73 := hM73.o
                have ms73 := hM73.s
                have mb73 := hM73.b
                have mt73 := hM73.t
                have mn73 := hM73.n
                have mc73 := hM73.c
                have hx7 : F2 7 = (z_goR M.2.1 sn i p).2.1 := hF2 7 (by decide)
                have hx8 : F2 8 = (z_goR M.2.1 sn i p).2.2 := hF2 8 (by decide)
                refine R_aload_n0 (pc := 76) dX10_sail_76 ?_
                refine R_iload_n1 (pc := 77) dX10_sail_77 ?_
                refine R_iconst (pc := 78) (v := 1) dX10_sail_78 (by decide) ?_
                refine R_aload_n0 (pc := 79) dX10_sail_79 ?_
                refine G_X10_104 (pc := 80) dX10_sail_80 (by assumption) ?_
                rw [show (F2, M.2.1, b2, M.2.2.2).1 7 = (z_goR M.2.1 sn i p).2.1 from hx7]
                refine R_callV3 (pc := 83) (T := TX10) cal_X10_put kw930 kw932 kw30 dX10_sail_83 (c_X10_put hM73 (by assumption) (k := 1) (by decide)) (by decide) (Nat.le_of_ble_eq_true rfl) (ci := 8) rfl (by assumption) ?_
                rintro _ h1 ⟨rfl, e1⟩
                have q1 := mstep_M q73 e1
                have hM1 := mAt q1
                have mo1 := hM1.o
                have ms1 := hM1.s
                have mb1 := hM1.b
                have mt1 := hM1.t
                have mn1 := hM1.n
                have mc1 := hM1.c
                refine R_aload_n0 (pc := 86) dX10_sail_86 ?_
                refine R_iload_n1 (pc := 87) dX10_sail_87 ?_
                refine R_iconst (pc := 88) (v := 2) dX10_sail_88 (by decide) ?_
                refine R_aload_n0 (pc := 89) dX10_sail_89 ?_
                refine G_X10_107 (pc := 90) dX10_sail_90 (by assumption) ?_
                rw [show (sM (F2, M.2.1, b2, M.2.2.2) (px (F2, M.2.1, b2, M.2.2.2).2.1 i 1 (z_goR M.2.1 sn i p).2.1)).1 8 = (z_goR M.2.1 sn i p).2.2 from hx8]
                refine R_callV3 (pc := 93) (T := TX10) cal_X10_put kw930 kw932 kw30 dX10_sail_93 (c_X10_put hM1 (by assumption) (k := 2) (by decide)) (by decide) (Nat.le_of_ble_eq_true rfl) (ci := 8) rfl (by assumption) ?_
                rintro _ h2 ⟨rfl, e2⟩
                have q2 := mstep_M q1 e2
                have hM2 := mAt q2
                have mo2 := hM2.o
                have ms2 := hM2.s
                have mb2 := hM2.b
                have mt2 := hM2.t
                have mn2 := hM2.n
                have mc2 := hM2.c
                refine R_aload_n0 (pc := 96) dX10_sail_96 ?_
                refine R_iload_n1 (pc := 97) dX10_sail_97 ?_
                refine R_bipush (pc := 98) (v := 10) dX10_sail_98 (by decide) ?_
                refine R_aload_n0 (pc := 100) dX10_sail_100 ?_
                refine R_iload_n1 (pc := 101) dX10_sail_101 ?_
                refine R_bipush (pc := 102) (v := 10) dX10_sail_102 (by decide) ?_
                refine R_callV2 (pc := 104) (T := TX10) cal_X10_get kw899 kw901 kw25 dX10_sail_104 (c_X10_get hM2 (by assumption) (k := 10) (by decide)) (by decide) (Nat.le_of_ble_eq_true rfl) (ci := 8) rfl (by assumption) ?_
                rintro _ _ ⟨rfl, rfl⟩
                refine R_iconst (pc := 107) (v := 1) dX10_sail_107 (by decide) ?_
                refine R_ior (pc := 108) dX10_sail_108 ?_
                refine R_callV3 (pc := 109) (T := TX10) cal_X10_put kw930 kw932 kw30 dX10_sail_109 (c_X10_put hM2 (by assumption) (k := 10) (by decide)) (by decide) (Nat.le_of_ble_eq_true rfl) (ci := 8) rfl (by assumption) ?_
                rintro _ h3 ⟨rfl, e3⟩
                have q3 := mstep_M q2 e3
                have hM3 := mAt q3
                have mo3 := hM3.o
                have ms3 := hM3.s
                have mb3 := hM3.b
                have mt3 := hM3.t
                have mn3 := hM3.n
                have mc3 := hM3.c
                refine R_aload_n0 (pc := 112) dX10_sail_112 ?_
                refine G_X10_104 (pc := 113) dX10_sail_113 (by assumption) ?_
                refine Run.cast (st := [.int (z_goR M.2.1 sn i p).2.1]) ?_ rfl rfl rfl rfl rfl (congrArg (fun z => [Value.int z]) hx7.symm)
                refine R_iret (pc := 116) rfl rfl dX10_sail_116 ?_
                refine ⟨?_, _, q3, ?_⟩
                · rw [zw_sail, if_pos ⟨c_10, hz⟩, hci, zw_sail2, if_pos ⟨c_25, c_33, c_47, d56, c_66⟩]
                  try rfl
                · rw [zw_sail, if_pos ⟨c_10, hz⟩, hci, zw_sail2, if_pos ⟨c_25, c_33, c_47, d56, c_66⟩]
                  exact Ms.fin (s := M.2.1) (Ms.gM M _ _) hact _
              · skip
                have c_66 : ¬ (z_goR M.2.1 sn i p).1 = true := c_66
                refine R_bipush (pc := 69) (v := (-2)) dX10_sail_69 (by decide) ?_
                refine R_iret (pc := 71) rfl rfl dX10_sail_71 ?_
                refine ⟨?_, _, q63, ?_⟩
                · rw [zw_sail, if_pos ⟨c_10, hz⟩, hci, zw_sail2, if_neg (fun z => c_66 z.2.2.2.2)]
                · rw [zw_sail, if_pos ⟨c_10, hz⟩, hci, zw_sail2, if_neg (fun z => c_66 z.2.2.2.2)]; exact Ms.gM _ _ _
    · skip
      have hz : z_size p = 0 := (nI_eq (b := 0) (by have := z_sz_le p; omega) (by decide)).mp c_14
      refine R_iconst (pc := 17) (v := (-1)) dX10_sail_17 (by decide) ?_
      refine R_iret (pc := 18) rfl rfl dX10_sail_18 ?_
      exact ⟨by rw [zw_sail, if_neg (fun z => z.2 hz)], _, q0, by rw [zw_sail, if_neg (fun z => z.2 hz)]; exact Ms.rf M⟩

set_option maxHeartbeats 4000000 in
set_option maxRecDepth 100000 in
theorem c_X10_fire (hM : MAt h u M) {sn : Nat} (hn : sn ≤ 8) (hsn : M.2.1 10 = nI sn) {m : Nat} (hm : m ≤ 6) (hmu : M.1 3 = nI m) (hwk : Wok M.2.1) {x side y : Int32} : Spec l D cA N0 m_X10_fire 4 0 0 [.ref u, .int x, .int side, .int y] h (fun r h' => r = some (.int (zw_fire M sn m x side y).1) ∧ ∃ M2, h' = mput h u M2 ∧ Ms (zw_fire M sn m x side y).2 M2) := by
  refine Spec.of (L := [some (.ref u), some (.int x), some (.int side), some (.int y), none, none]) (by decide) rfl (Nat.le_of_ble_eq_true rfl) ?_
  have q0 : h = mput h u M := (mput_self hM).symm
  have mo0 := hM.o
  have ms0 := hM.s
  have mb0 := hM.b
  have mt0 := hM.t
  have mn0 := hM.n
  have mc0 := hM.c
  refine R_aload_n0 (pc := 0) dX10_fire_0 ?_
  refine R_iload_n1 (pc := 1) dX10_fire_1 ?_
  refine R_iload_n3 (pc := 2) dX10_fire_2 ?_
  refine R_callV2 (pc := 3) (T := TX10) cal_X10_areTwo kw985 kw987 kw37 dX10_fire_3 (c_X10_areTwo hM hn hsn) (by decide) (Nat.le_of_ble_eq_true rfl) (ci := 8) rfl (by assumption) ?_
  rintro _ _ ⟨rfl, rfl⟩
  refine R_ifb_eq (pc := 6) 19 dX10_fire_6 (by decide) (fun c_6 => ?_) (fun c_6 => ?_)
  · skip
    refine R_iconst (pc := 19) (v := (-1)) dX10_fire_19 (by decide) ?_
    refine R_iret (pc := 20) rfl rfl dX10_fire_20 ?_
    exact ⟨by rw [zw_fire, if_neg (fun z => c_6 z.1)], _, q0, by rw [zw_fire, if_neg (fun z => c_6 z.1)]; exact Ms.rf M⟩
  · skip
    refine R_iload_n2 (pc := 9) dX10_fire_9 ?_
    refine R_i2l (pc := 10) dX10_fire_10 ?_
    refine R_lconst (pc := 11) (v := 0) dX10_fire_11 (by decide) ?_
    refine R_lconst (pc := 12) (v := 1) dX10_fire_12 (by decide) ?_
    refine R_callS3 (pc := 13) cal_X10_in kw892 kw893 dX10_fire_13 (c_X10_in rfl (lo := 0) (by decide) (hi := 1) (by decide)) (by decide) (Nat.le_of_ble_eq_true rfl) ?_
    rintro _ _ ⟨rfl, rfl⟩
    refine R_ifb_ne (pc := 16) 21 dX10_fire_16 (by decide) (fun c_16 => ?_) (fun c_16 => ?_)
    · skip
      obtain ⟨i, hsi, ei⟩ := i_nI c_6.1.1 c_6.1.2 (by omega)
      obtain ⟨j, hsj, ej⟩ := i_nI c_6.2.1.1 c_6.2.1.2 (by omega)
      have hi : i < 8 := by omega
      have hj : j < 8 := by omega
      have hci : (nI i).toNatClampNeg = i := nI_clamp (by omega)
      have hcj : (nI j).toNatClampNeg = j := nI_clamp (by omega)
      subst ei
      subst ej
      obtain ⟨k, hk, ek⟩ := ge0 (n := 1) c_16.1 (by decide) c_16.2
      have hck : (nI k).toNatClampNeg = k := nI_clamp (by omega)
      subst ek
      refine R_aload_n0 (pc := 21) dX10_fire_21 ?_
      refine R_iload_n1 (pc := 22) dX10_fire_22 ?_
      refine R_iload_n2 (pc := 23) dX10_fire_23 ?_
      refine R_iload_n3 (pc := 24) dX10_fire_24 ?_
      refine R_callV3 (pc := 25) (T := TX10) cal_X10_farBy kw989 kw991 kw38 dX10_fire_25 (c_X10_farBy hM hn hsn hi hj) (by decide) (Nat.le_of_ble_eq_true rfl) (ci := 8) rfl (by assumption) ?_
      rintro _ h25 ⟨rfl, v25, e25⟩
      have q25 := mstep_M q0 e25
      have hM25 := mAt q25
      have mo25 := hM25.o
      have ms25 := hM25.s
      have mb25 := hM25.b
      have mt25 := hM25.t
      have mn25 := hM25.n
      have mc25 := hM25.c
      refine R_istore4 (pc := 28) dX10_fire_28 rfl (by decide) ?_
      refine R_aload_n0 (pc := 30) dX10_fire_30 ?_
      refine G_X10_7 (pc := 31) dX10_fire_31 (by assumption) ?_
      refine R_iconst (pc := 34) (v := 1) dX10_fire_34 (by decide) ?_
      refine R_iald (pc := 35) dX10_fire_35 (by assumption) (in_n (i := 1) (by decide) (by decide)) ?_
      rw [show ((1 : Int32)).toNatClampNeg = 1 from rfl]
      refine R_if_eq (pc := 36) 53 dX10_fire_36 (by decide) (fun c_36 => ?_) (fun c_36 => ?_)
      · skip
        have c_36 : M.2.1 1 = 0 := c_36
        refine R_bipush (pc := 53) (v := (-2)) dX10_fire_53 (by decide) ?_
        refine R_iret (pc := 55) rfl rfl dX10_fire_55 ?_
        refine ⟨?_, _, q25, ?_⟩
        · rw [zw_fire, if_pos ⟨c_6, c_16⟩, hci, hck, hcj, zw_fire2, if_neg (fun z => z.1 c_36)]
        · rw [zw_fire, if_pos ⟨c_6, c_16⟩, hci, hck, hcj, zw_fire2, if_neg (fun z => z.1 c_36)]; exact Ms.f9 _ _
      · skip
        have c_36 : ¬ M.2.1 1 = 0 := c_36
        refine R_iload4 (pc := 39) dX10_fire_39 ?_
        refine R_if_eq (pc := 41) 53 dX10_fire_41 (by decide) (fun c_41 => ?_) (fun c_41 => ?_)
        · skip
          have c_41 : (z_far M.2.1 sn i (nI k) j) = 0 := c_41
          refine R_bipush (pc := 53) (v := (-2)) dX10_fire_53 (by decide) ?_
          refine R_iret (pc := 55) rfl rfl dX10_fire_55 ?_
          refine ⟨?_, _, q25, ?_⟩
          · rw [zw_fire, if_pos ⟨c_6, c_16⟩, hci, hck, hcj, zw_fire2, if_neg (fun z => z.2.1 c_41)]
          · rw [zw_fire, if_pos ⟨c_6, c_16⟩, hci, hck, hcj, zw_fire2, if_neg (fun z => z.2.1 c_41)]; exact Ms.f9 _ _
        · skip
          have c_41 : ¬ (z_far M.2.1 sn i (nI k) j) = 0 := c_41
          refine R_aload_n0 (pc := 44) dX10_fire_44 ?_
          refine R_iload_n1 (pc := 45) dX10_fire_45 ?_
          refine R_iload_n2 (pc := 46) dX10_fire_46 ?_
          refine R_callV2 (pc := 47) (T := TX10) cal_X10_mayFire kw997 kw999 kw40 dX10_fire_47 (c_X10_mayFire hM25 hi (show k < 2 by omega)) (by decide) (Nat.le_of_ble_eq_true rfl) (ci := 8) rfl (by assumption) ?_
          rintro _ _ ⟨rfl, rfl⟩
          refine R_ifb_ne (pc := 50) 56 dX10_fire_50 (by decide) (fun c_50 => ?_) (fun c_50 => ?_)
          · skip
            have c_50 : z_may M.2.1 i k = true := c_50
            refine R_aload_n0 (pc := 56) dX10_fire_56 ?_
            refine R_callV0 (pc := 57) (T := TX10) cal_X10_act kw903 kw905 kw26 dX10_fire_57 (c_X10_act hM25 hm hmu) (by decide) (Nat.le_of_ble_eq_true rfl) (ci := 8) rfl (by assumption) ?_
            rintro _ h57 ⟨rfl, e57⟩
            obtain ⟨F2, b2, hact, hF2⟩ := z_act_form (fM M 9 v25) m
            rw [hact] at e57
            have q57 : h57 = mput _ u (F2, M.2.1, b2, M.2.2.2) := mstep_M q25 e57
            have hM57 := mAt q57
            have mo57 := hM57.o
            have ms57 := hM57.s
            have mb57 := hM57.b
            have mt57 := hM57.t
            have mn57 := hM57.n
            have mc57 := hM57.c
            refine R_aload_n0 (pc := 60) dX10_fire_60 ?_
            refine R_iload_n1 (pc := 61) dX10_fire_61 ?_
            refine R_iload4 (pc := 62) dX10_fire_62 ?_
            refine R_callV2 (pc := 64) (T := TX10) cal_X10_hitsAt kw1001 kw1003 kw41 dX10_fire_64 (c_X10_hitsAt hM57 hi) (by decide) (Nat.le_of_ble_eq_true rfl) (ci := 8) rfl (by assumption) ?_
            rintro _ _ ⟨rfl, rfl⟩
            refine R_istore5 (pc := 67) dX10_fire_67 rfl (by decide) ?_
            refine R_aload_n0 (pc := 69) dX10_fire_69 ?_
            refine R_iload_n3 (pc := 70) dX10_fire_70 ?_
            refine R_iconst (pc := 71) (v := 3) dX10_fire_71 (by decide) ?_
            refine R_iload5 (pc := 72) dX10_fire_72 ?_
            refine R_callV3 (pc := 74) (T := TX10) cal_X10_lose kw1005 kw1007 kw42 dX10_fire_74 (c_X10_lose hM57 (by assumption) (k := 3) (by decide)) (by decide) (Nat.le_of_ble_eq_true rfl) (ci := 8) rfl (by assumption) ?_
            rintro _ h1 ⟨rfl, e1⟩
            have q1 := mstep_M q57 e1
            have hM1 := mAt q1
            have mo1 := hM1.o
            have ms1 := hM1.s
            have mb1 := hM1.b
            have mt1 := hM1.t
            have mn1 := hM1.n
            have mc1 := hM1.c
            refine R_aload_n0 (pc := 77) dX10_fire_77 ?_
            refine R_iload_n3 (pc := 78) dX10_fire_78 ?_
            refine R_iconst (pc := 79) (v := 5) dX10_fire_79 (by decide) ?_
            refine R_iload5 (pc := 80) dX10_fire_80 ?_
            refine R_iconst (pc := 82) (v := 3) dX10_fire_82 (by decide) ?_
            refine R_idiv (pc := 83) dX10_fire_83 (by decide) ?_
            refine R_callV3 (pc := 84) (T := TX10) cal_X10_lose kw1005 kw1007 kw42 dX10_fire_84 (c_X10_lose hM1 (by assumption) (k := 5) (by decide)) (by decide) (Nat.le_of_ble_eq_true rfl) (ci := 8) rfl (by assumption) ?_
            rintro _ h2 ⟨rfl, e2⟩
            have q2 := mstep_M q1 e2
            have hM2 := mAt q2
            have mo2 := hM2.o
            have ms2 := hM2.s
            have mb2 := hM2.b
            have mt2 := hM2.t
            have mn2 := hM2.n
            have mc2 := hM2.c
            refine R_aload_n0 (pc := 87) dX10_fire_87 ?_
            refine R_iload_n3 (pc := 88) dX10_fire_88 ?_
            refine R_iconst (pc := 89) (v := 4) dX10_fire_89 (by decide) ?_
            refine R_iload5 (pc := 90) dX10_fire_90 ?_
            refine R_iconst (pc := 92) (v := 4) dX10_fire_92 (by decide) ?_
            refine R_idiv (pc := 93) dX10_fire_93 (by decide) ?_
            refine R_callV3 (pc := 94) (T := TX10) cal_X10_lose kw1005 kw1007 kw42 dX10_fire_94 (c_X10_lose hM2 (by assumption) (k := 4) (by decide)) (by decide) (Nat.le_of_ble_eq_true rfl) (ci := 8) rfl (by assumption) ?_
            rintro _ h3 ⟨rfl, e3⟩
            have q3 := mstep_M q2 e3
            have hM3 := mAt q3
            have mo3 := hM3.o
            have ms3 := hM3.s
            have mb3 := hM3.b
            have mt3 := hM3.t
            have mn3 := hM3.n
            have mc3 := hM3.c
            refine R_aload_n0 (pc := 97) dX10_fire_97 ?_
            refine R_iload_n3 (pc := 98) dX10_fire_98 ?_
            refine R_bipush (pc := 99) (v := 6) dX10_fire_99 (by decide) ?_
            refine R_iload5 (pc := 101) dX10_fire_101 ?_
            refine R_bipush (pc := 103) (v := 6) dX10_fire_103 (by decide) ?_
            refine R_idiv (pc := 105) dX10_fire_105 (by decide) ?_
            refine R_callV3 (pc := 106) (T := TX10) cal_X10_lose kw1005 kw1007 kw42 dX10_fire_106 (c_X10_lose hM3 (by assumption) (k := 6) (by decide)) (by decide) (Nat.le_of_ble_eq_true rfl) (ci := 8) rfl (by assumption) ?_
            rintro _ h4 ⟨rfl, e4⟩
            have q4 := mstep_M q3 e4
            have hM4 := mAt q4
            have mo4 := hM4.o
            have ms4 := hM4.s
            have mb4 := hM4.b
            have mt4 := hM4.t
            have mn4 := hM4.n
            have mc4 := hM4.c
            refine R_aload_n0 (pc := 109) dX10_fire_109 ?_
            refine R_iload_n1 (pc := 110) dX10_fire_110 ?_
            refine R_bipush (pc := 111) (v := 8) dX10_fire_111 (by decide) ?_
            refine R_iload_n2 (pc := 113) dX10_fire_113 ?_
            refine R_iadd (pc := 114) dX10_fire_114 ?_
            rw [show (8 : Int32) + nI k = nI (8 + k) from nI_add 8 k]
            refine R_aload_n0 (pc := 115) dX10_fire_115 ?_
            refine G_X10_7 (pc := 116) dX10_fire_116 (by assumption) ?_
            refine R_iconst (pc := 119) (v := 0) dX10_fire_119 (by decide) ?_
            refine R_iald (pc := 120) dX10_fire_120 (by assumption) (in_n (i := 0) (by decide) (by decide)) ?_
            rw [show ((0 : Int32)).toNatClampNeg = 0 from rfl]
            refine R_callV3 (pc := 121) (T := TX10) cal_X10_put kw930 kw932 kw30 dX10_fire_121 (c_X10_put hM4 hi (show 8 + k < 11 by omega)) (by decide) (Nat.le_of_ble_eq_true rfl) (ci := 8) rfl (by assumption) ?_
            rintro _ h5 ⟨rfl, e5⟩
            have q5 := mstep_M q4 e5
            have hM5 := mAt q5
            have mo5 := hM5.o
            have ms5 := hM5.s
            have mb5 := hM5.b
            have mt5 := hM5.t
            have mn5 := hM5.n
            have mc5 := hM5.c
            refine R_aload_n0 (pc := 124) dX10_fire_124 ?_
            refine R_iload_n1 (pc := 125) dX10_fire_125 ?_
            refine R_bipush (pc := 126) (v := 10) dX10_fire_126 (by decide) ?_
            refine R_aload_n0 (pc := 128) dX10_fire_128 ?_
            refine R_iload_n1 (pc := 129) dX10_fire_129 ?_
            refine R_bipush (pc := 130) (v := 10) dX10_fire_130 (by decide) ?_
            refine R_callV2 (pc := 132) (T := TX10) cal_X10_get kw899 kw901 kw25 dX10_fire_132 (c_X10_get hM5 (by assumption) (k := 10) (by decide)) (by decide) (Nat.le_of_ble_eq_true rfl) (ci := 8) rfl (by assumption) ?_
            rintro _ _ ⟨rfl, rfl⟩
            refine R_iconst (pc := 135) (v := 2) dX10_fire_135 (by decide) ?_
            refine R_ior (pc := 136) dX10_fire_136 ?_
            refine R_callV3 (pc := 137) (T := TX10) cal_X10_put kw930 kw932 kw30 dX10_fire_137 (c_X10_put hM5 (by assumption) (k := 10) (by decide)) (by decide) (Nat.le_of_ble_eq_true rfl) (ci := 8) rfl (by assumption) ?_
            rintro _ h6 ⟨rfl, e6⟩
            have q6 := mstep_M q5 e6
            have hM6 := mAt q6
            have mo6 := hM6.o
            have ms6 := hM6.s
            have mb6 := hM6.b
            have mt6 := hM6.t
            have mn6 := hM6.n
            have mc6 := hM6.c
            obtain ⟨z6, hz6⟩ : ∃ z6 : Nat → Int32, z6 = px (px (z_lose (z_lose (z_lose (z_lose M.2.1 j 3 (z_hits M.2.1 i (z_far M.2.1 sn i (nI k) j))) j 5 (z_hits M.2.1 i (z_far M.2.1 sn i (nI k) j) / 3)) j 4 (z_hits M.2.1 i (z_far M.2.1 sn i (nI k) j) / 4)) j 6 (z_hits M.2.1 i (z_far M.2.1 sn i (nI k) j) / 6)) i (8 + k) ((z_lose (z_lose (z_lose (z_lose M.2.1 j 3 (z_hits M.2.1 i (z_far M.2.1 sn i (nI k) j))) j 5 (z_hits M.2.1 i (z_far M.2.1 sn i (nI k) j) / 3)) j 4 (z_hits M.2.1 i (z_far M.2.1 sn i (nI k) j) / 4)) j 6 (z_hits M.2.1 i (z_far M.2.1 sn i (nI k) j) / 6)) 0)) i 10 (gx (px (z_lose (z_lose (z_lose (z_lose M.2.1 j 3 (z_hits M.2.1 i (z_far M.2.1 sn i (nI k) j))) j 5 (z_hits M.2.1 i (z_far M.2.1 sn i (nI k) j) / 3)) j 4 (z_hits M.2.1 i (z_far M.2.1 sn i (nI k) j) / 4)) j 6 (z_hits M.2.1 i (z_far M.2.1 sn i (nI k) j) / 6)) i (8 + k) ((z_lose (z_lose (z_lose (z_lose M.2.1 j 3 (z_hits M.2.1 i (z_far M.2.1 sn i (nI k) j))) j 5 (z_hits M.2.1 i (z_far M.2.1 sn i (nI k) j) / 3)) j 4 (z_hits M.2.1 i (z_far M.2.1 sn i (nI k) j) / 4)) j 6 (z_hits M.2.1 i (z_far M.2.1 sn i (nI k) j) / 6)) 0)) i 10 ||| 2) := ⟨_, rfl⟩
            have hw6 : gx z6 j 7 < 0 ∨ ∃ g, g < 8 ∧ gx z6 j 7 = nI g := by
              have e : gx z6 j 7 = gx M.2.1 j 7 := by
                rw [hz6, gx_px (by decide) (by decide) (by decide), gx_px (by omega) (by decide) (by omega)]
                unfold z_lose
                rw [gx_px (by decide) (by decide) (by decide), gx_px (by decide) (by decide) (by decide), gx_px (by decide) (by decide) (by decide), gx_px (by decide) (by decide) (by decide)]
              rw [e]
              exact hwk j hj
            have qz := q_cast (M2 := (F2, z6, b2, M.2.2.2)) q6 (by rw [hz6]; rfl)
            have hM140 := mAt qz
            have mo140 := hM140.o
            have ms140 := hM140.s
            have mb140 := hM140.b
            have mt140 := hM140.t
            have mn140 := hM140.n
            have mc140 := hM140.c
            refine R_aload_n0 (pc := 140) dX10_fire_140 ?_
            refine R_iload_n3 (pc := 141) dX10_fire_141 ?_
            refine R_iconst (pc := 142) (v := 3) dX10_fire_142 (by decide) ?_
            refine R_callV2 (pc := 143) (T := TX10) cal_X10_get kw899 kw901 kw25 dX10_fire_143 (c_X10_get hM140 (by assumption) (k := 3) (by decide)) (by decide) (Nat.le_of_ble_eq_true rfl) (ci := 8) rfl (by assumption) ?_
            rintro _ _ ⟨rfl, rfl⟩
            refine R_if_ne (pc := 146) 161 dX10_fire_146 (by decide) (fun c_146 => ?_) (fun c_146 => ?_)
            · skip
              refine R_iload5 (pc := 161) dX10_fire_161 ?_
              refine R_iret (pc := 163) rfl rfl dX10_fire_163 ?_
              have hfs : z_fs M.2.1 i k j (z_hits M.2.1 i (z_far M.2.1 sn i (nI k) j)) = z6 := by
                simp only [z_fs]
                rw [← hz6]
                exact if_neg c_146
              refine ⟨?_, _, qz, ?_⟩
              · rw [zw_fire, if_pos ⟨c_6, c_16⟩, hci, hck, hcj, zw_fire2, if_pos ⟨c_36, c_41, c_50⟩, hfs]
                try rfl
              · rw [zw_fire, if_pos ⟨c_6, c_16⟩, hci, hck, hcj, zw_fire2, if_pos ⟨c_36, c_41, c_50⟩, hfs]
                exact Ms.fin (s := M.2.1) (Ms.f9 M _) hact _
            · skip
              refine R_aload_n0 (pc := 149) dX10_fire_149 ?_
              refine R_iload_n3 (pc := 150) dX10_fire_150 ?_
              refine R_callV1 (pc := 151) (T := TX10) cal_X10_free kw1009 kw1011 kw43 dX10_fire_151 (c_X10_free hM140 hj hw6) (by decide) (Nat.le_of_ble_eq_true rfl) (ci := 8) rfl (by assumption) ?_
              rintro _ h7 ⟨rfl, e7⟩
              have q7 := mstep_M qz e7
              have hM7 := mAt q7
              have mo7 := hM7.o
              have ms7 := hM7.s
              have mb7 := hM7.b
              have mt7 := hM7.t
              have mn7 := hM7.n
              have mc7 := hM7.c
              refine R_aload_n0 (pc := 154) dX10_fire_154 ?_
              refine R_iload_n3 (pc := 155) dX10_fire_155 ?_
              refine R_iconst (pc := 156) (v := 1) dX10_fire_156 (by decide) ?_
              refine R_iconst (pc := 157) (v := (-1)) dX10_fire_157 (by decide) ?_
              refine R_callV3 (pc := 158) (T := TX10) cal_X10_put kw930 kw932 kw30 dX10_fire_158 (c_X10_put hM7 (by assumption) (k := 1) (by decide)) (by decide) (Nat.le_of_ble_eq_true rfl) (ci := 8) rfl (by assumption) ?_
              rintro _ h8 ⟨rfl, e8⟩
              have q8 := mstep_M q7 e8
              have hM8 := mAt q8
              have mo8 := hM8.o
              have ms8 := hM8.s
              have mb8 := hM8.b
              have mt8 := hM8.t
              have mn8 := hM8.n
              have mc8 := hM8.c
              refine R_iload5 (pc := 161) dX10_fire_161 ?_
              refine R_iret (pc := 163) rfl rfl dX10_fire_163 ?_
              have hfs : z_fs M.2.1 i k j (z_hits M.2.1 i (z_far M.2.1 sn i (nI k) j)) = px (z_cutf z6 j) j 1 (-1) := by
                simp only [z_fs]
                rw [← hz6]
                exact if_pos c_146
              refine ⟨?_, _, q8, ?_⟩
              · rw [zw_fire, if_pos ⟨c_6, c_16⟩, hci, hck, hcj, zw_fire2, if_pos ⟨c_36, c_41, c_50⟩, hfs]
                try rfl
              · rw [zw_fire, if_pos ⟨c_6, c_16⟩, hci, hck, hcj, zw_fire2, if_pos ⟨c_36, c_41, c_50⟩, hfs]
                exact Ms.fin (s := M.2.1) (Ms.f9 M _) hact _
          · skip
            have c_50 : ¬ z_may M.2.1 i k = true := c_50
            refine R_bipush (pc := 53) (v := (-2)) dX10_fire_53 (by decide) ?_
            refine R_iret (pc := 55) rfl rfl dX10_fire_55 ?_
            refine ⟨?_, _, q25, ?_⟩
            · rw [zw_fire, if_pos ⟨c_6, c_16⟩, hci, hck, hcj, zw_fire2, if_neg (fun z => c_50 z.2.2)]
            · rw [zw_fire, if_pos ⟨c_6, c_16⟩, hci, hck, hcj, zw_fire2, if_neg (fun z => c_50 z.2.2)]; exact Ms.f9 _ _
    · skip
      refine R_iconst (pc := 19) (v := (-1)) dX10_fire_19 (by decide) ?_
      refine R_iret (pc := 20) rfl rfl dX10_fire_20 ?_
      exact ⟨by rw [zw_fire, if_neg (fun z => c_16 z.2)], _, q0, by rw [zw_fire, if_neg (fun z => c_16 z.2)]; exact Ms.rf M⟩

end LV33
