/-! THE LAW: tells -/
theorem hand_bit : ∀ a : Fin 64, 0 < a.1 → ∃ p : Fin 6, a.1.testBit p.1 = true := by decide +kernel
theorem sail_no {sn T : Nat} {G : Gm} (h : Inv sn T G) (hm : G.1 1 = 0) (hsn : 0 < sn) : k_sail G 0 1 = (-2, G) := by
  have hp : k_pok 1 = true := decide_eq_true ⟨by decide, by rw [show (1 : Int32).toNatClampNeg = 1 from rfl, dg_s (by decide), show 1 / 10 = 0 from rfl, dg_0]; rfl⟩
  unfold k_sail
  rw [show k_known G 0 = some 0 from h.kn hsn]
  dsimp only
  rw [if_pos hp, if_pos (Or.inl hm)]
theorem end_no {G : Gm} (hm : G.1 1 = 0) : k_end G = (-2, G) := if_pos hm
theorem wind_v (C : Cm) {x y : Nat} (hx : x < 6) (hy : y < 6) : p_wind C (nI x) (nI y) = 10 * k_dir C.1.1 (nI x + nI y) + k_str (nI x + nI y) := if_pos ⟨⟨nI_pos' (by omega), (nI_ltI (b := 6) (by omega) (by decide)).mpr hx⟩, nI_pos' (by omega), (nI_ltI (b := 6) (by omega) (by decide)).mpr hy⟩
section LV35
variable {l : Launch} {D : va_G} {cA : Nat → ClassId} {N0 : Nat} {w b Ln : Nat} {xs : Nat → Int32} {sn T : Nat} {C : Cm}
set_option maxHeartbeats 4000000 in
set_option maxRecDepth 100000 in
theorem LE_tail (h : Inv sn T C.1.1) (hz : sBz C.1) (hm : C.1.1.1 1 = 0) (hsn : 0 < sn) {c a b : Nat} (a6 : a < 64) (b6 : b < 64) (ea : cF C.1.1 0 0 = nI a) (eb : cF C.1.1 1 0 = nI b) {x y : Nat} (hx : x < 6) (hy : y < 6) (bx : a.testBit x = true) (by' : b.testBit y = true) {hh : AH} (hC : CAt hh w C) : RunM l D cA N0 m_L_tells 7 0 0 (PA w sn T C) hh 0 0 58 [some (.ref w), some (.int (nI c)), some (.int (nI x)), some (.int (nI y)), none, none] [] := by
  obtain ⟨G1, G3, t1, _, t2, f01, t3, hI, g1, g2, g3, g01, t4, bG1⟩ := h.tells hm ea eb a6 b6 hx hy bx by'
  have t1a := congrArg Prod.fst t1
  have t1b := congrArg Prod.snd t1
  have s0 := sail_no h hm hsn
  have s1 := congrArg Prod.fst s0
  have s2 := congrArg Prod.snd s0
  have n0 := end_no hm
  have n1 := congrArg Prod.fst n0
  have n2 := congrArg Prod.snd n0
  dsimp only at t1a t1b s1 s2 n1 n2
  refine R_aload_n0 (pc := 58) dL_tells_58 ?_
  refine R_iload_n2 (pc := 59) dL_tells_59 ?_
  refine R_iload_n3 (pc := 60) dL_tells_60 ?_
  refine R_callV2 (pc := 61) (T := TX9) cal_X9_windBy kw679 kw680 kw681 dL_tells_61 (c_X9_windBy hC) (by decide) (Nat.le_of_ble_eq_true rfl) (ci := 7) rfl hC.self ?_
  rintro _ _ ⟨rfl, hC, -⟩
  rw [wind_v C hx hy]
  refine R_istore4 (pc := 64) dL_tells_64 rfl (by decide) ?_
  refine R_aload_n0 (pc := 66) dL_tells_66 ?_
  refine R_iconst (pc := 67) (v := 0) dL_tells_67 (by decide) ?_
  refine R_iconst (pc := 68) (v := 1) dL_tells_68 (by decide) ?_
  refine R_callV2 (pc := 69) (T := TX9) cal_X9_sail kw598 kw599 kw600 dL_tells_69 (c_X9_sail hC hz) (by decide) (Nat.le_of_ble_eq_true rfl) (ci := 7) rfl hC.self ?_
  rintro _ _ ⟨rfl, hC, -⟩
  rw [s1, s2, cact_m C (by decide)] at hC
  rw [s1]
  refine R_bipush (pc := 72) (v := (-2)) dL_tells_72 (by decide) ?_
  refine R_icmp_ne (pc := 74) 131 dL_tells_74 (by decide) (fun c_74 => absurd rfl c_74) (fun c_74 => ?_)
  refine R_aload_n0 (pc := 77) dL_tells_77 ?_
  refine R_callV0 (pc := 78) (T := TX9) cal_X9_end kw250 kw251 kw252 dL_tells_78 (c_X9_end hC hz) (by decide) (Nat.le_of_ble_eq_true rfl) (ci := 7) rfl hC.self ?_
  rintro _ _ ⟨rfl, hC, -⟩
  rw [n1, n2, cact_m C (by decide)] at hC
  rw [n1]
  refine R_bipush (pc := 81) (v := (-2)) dL_tells_81 (by decide) ?_
  refine R_icmp_ne (pc := 83) 131 dL_tells_83 (by decide) (fun c_83 => absurd rfl c_83) (fun c_83 => ?_)
  refine R_aload_n0 (pc := 86) dL_tells_86 ?_
  refine R_iconst (pc := 87) (v := 0) dL_tells_87 (by decide) ?_
  refine R_iload_n2 (pc := 88) dL_tells_88 ?_
  refine R_callV2 (pc := 89) (T := TX9) cal_X9_tell kw693 kw694 kw695 dL_tells_89 (c_X9_tell hC hz) (by decide) (Nat.le_of_ble_eq_true rfl) (ci := 7) rfl hC.self ?_
  rintro _ _ ⟨rfl, hC, -⟩
  rw [t1a, t1b] at hC
  rw [t1a]
  obtain ⟨C1, hC1, e1⟩ := act_out C 1 (G1, C.1.2)
  rw [← hC1] at hC
  have eG1 : C1.1.1 = G1 := by rw [e1]
  have e12 : C1.1.2 = C.1.2 := by rw [e1]
  have z1 : sBz C1.1 := ⟨by rw [eG1]; exact bG1, by rw [e12]; exact hz.2.1, by rw [e12]; exact hz.2.2⟩
  have u2 : k_tell C1.1.1 0 (nI x) = (-2, C1.1.1) := by rw [eG1]; exact t2
  have u2a := congrArg Prod.fst u2
  have u2b := congrArg Prod.snd u2
  have u3 : k_tell C1.1.1 1 (nI y) = (3, G3) := by rw [eG1]; exact t3
  have u3a := congrArg Prod.fst u3
  have u3b := congrArg Prod.snd u3
  dsimp only at u2a u2b u3a u3b
  have c01 : p_cap C1 0 1 = nI x := by show cF C1.1.1 0 1 = nI x; rw [eG1]; exact f01
  refine R_iconst (pc := 92) (v := 1) dL_tells_92 (by decide) ?_
  refine R_icmp_ne (pc := 93) 131 dL_tells_93 (by decide) (fun c_93 => absurd rfl c_93) (fun c_93 => ?_)
  refine R_aload_n0 (pc := 96) dL_tells_96 ?_
  refine R_iconst (pc := 97) (v := 0) dL_tells_97 (by decide) ?_
  refine R_iload_n2 (pc := 98) dL_tells_98 ?_
  refine R_callV2 (pc := 99) (T := TX9) cal_X9_tell kw693 kw694 kw695 dL_tells_99 (c_X9_tell hC z1) (by decide) (Nat.le_of_ble_eq_true rfl) (ci := 7) rfl hC.self ?_
  rintro _ _ ⟨rfl, hC, -⟩
  rw [u2a, u2b, cact_m C1 (by decide)] at hC
  rw [u2a]
  refine R_bipush (pc := 102) (v := (-2)) dL_tells_102 (by decide) ?_
  refine R_icmp_ne (pc := 104) 131 dL_tells_104 (by decide) (fun c_104 => absurd rfl c_104) (fun c_104 => ?_)
  refine R_aload_n0 (pc := 107) dL_tells_107 ?_
  refine R_iconst (pc := 108) (v := 0) dL_tells_108 (by decide) ?_
  refine R_iconst (pc := 109) (v := 1) dL_tells_109 (by decide) ?_
  refine R_callV2 (pc := 110) (T := TX9) cal_X9_captain kw474 kw475 kw476 dL_tells_110 (c_X9_captain hC) (by decide) (Nat.le_of_ble_eq_true rfl) (ci := 7) rfl hC.self ?_
  rintro _ _ ⟨rfl, hC, -⟩
  rw [c01]
  refine R_iload_n2 (pc := 113) dL_tells_113 ?_
  refine R_icmp_ne (pc := 114) 131 dL_tells_114 (by decide) (fun c_114 => absurd rfl c_114) (fun c_114 => ?_)
  refine R_aload_n0 (pc := 117) dL_tells_117 ?_
  refine R_iconst (pc := 118) (v := 1) dL_tells_118 (by decide) ?_
  refine R_iload_n3 (pc := 119) dL_tells_119 ?_
  refine R_callV2 (pc := 120) (T := TX9) cal_X9_tell kw693 kw694 kw695 dL_tells_120 (c_X9_tell hC z1) (by decide) (Nat.le_of_ble_eq_true rfl) (ci := 7) rfl hC.self ?_
  rintro _ _ ⟨rfl, hC, -⟩
  rw [u3a, u3b] at hC
  rw [u3a]
  obtain ⟨C2, hC2, e2⟩ := act_out C1 3 (G3, C1.1.2)
  rw [← hC2] at hC
  have eG3 : C2.1.1 = G3 := by rw [e2]
  have h2 : Inv sn T C2.1.1 := by rw [eG3]; exact hI
  have m2 : C2.1.1.1 1 = 1 := by rw [eG3]; exact g1
  have e22 : C2.1.2 = C.1.2 := by rw [e2]; exact e12
  have z2 : sBz C2.1 := bz_of hz (Or.inr m2) e22
  have u4 : k_tell C2.1.1 1 (nI y) = (-2, C2.1.1) := by rw [eG3]; exact t4
  have u4a := congrArg Prod.fst u4
  have u4b := congrArg Prod.snd u4
  dsimp only at u4a u4b
  have hw : 10 * C2.1.1.1 2 + C2.1.1.1 3 = 10 * k_dir C.1.1 (nI x + nI y) + k_str (nI x + nI y) := by rw [eG3, g2, g3]
  have c02 : p_cap C2 0 1 = -9 := by show cF C2.1.1 0 1 = -9; rw [eG3]; exact g01
  refine R_iconst (pc := 123) (v := 3) dL_tells_123 (by decide) ?_
  refine R_icmp_ne (pc := 124) 131 dL_tells_124 (by decide) (fun c_124 => absurd rfl c_124) (fun c_124 => ?_)
  refine R_iconst (pc := 127) (v := 1) dL_tells_127 (by decide) ?_
  refine R_goto (pc := 128) 132 dL_tells_128 (by decide) ?_
  refine R_istore5 (pc := 132) dL_tells_132 rfl (by decide) ?_
  refine R_iload5 (pc := 134) dL_tells_134 ?_
  refine R_if_eq (pc := 136) 193 dL_tells_136 (by decide) (fun c0 => False.elim (by revert c0; decide)) (fun _ => ?_)
  refine R_bipush (pc := 139) (v := 10) dL_tells_139 (by decide) ?_
  refine R_aload_n0 (pc := 141) dL_tells_141 ?_
  refine R_iconst (pc := 142) (v := 2) dL_tells_142 (by decide) ?_
  refine R_callV1 (pc := 143) (T := TX9) cal_X9_count kw339 kw340 kw341 dL_tells_143 (c_X9_count hC) (by decide) (Nat.le_of_ble_eq_true rfl) (ci := 7) rfl hC.self ?_
  rintro _ _ ⟨rfl, hC, -⟩
  rw [ct2]
  refine R_imul (pc := 146) dL_tells_146 ?_
  refine R_aload_n0 (pc := 147) dL_tells_147 ?_
  refine R_iconst (pc := 148) (v := 3) dL_tells_148 (by decide) ?_
  refine R_callV1 (pc := 149) (T := TX9) cal_X9_count kw339 kw340 kw341 dL_tells_149 (c_X9_count hC) (by decide) (Nat.le_of_ble_eq_true rfl) (ci := 7) rfl hC.self ?_
  rintro _ _ ⟨rfl, hC, -⟩
  rw [ct3]
  refine R_iadd (pc := 152) dL_tells_152 ?_
  refine R_iload4 (pc := 153) dL_tells_153 ?_
  refine R_icmp_ne (pc := 155) 193 dL_tells_155 (by decide) (fun c_155 => absurd hw c_155) (fun c_155 => ?_)
  refine R_aload_n0 (pc := 158) dL_tells_158 ?_
  refine R_iconst (pc := 159) (v := 1) dL_tells_159 (by decide) ?_
  refine R_callV1 (pc := 160) (T := TX9) cal_X9_count kw339 kw340 kw341 dL_tells_160 (c_X9_count hC) (by decide) (Nat.le_of_ble_eq_true rfl) (ci := 7) rfl hC.self ?_
  rintro _ _ ⟨rfl, hC, -⟩
  rw [ct1, m2, if_neg (by decide)]
  refine R_iconst (pc := 163) (v := 1) dL_tells_163 (by decide) ?_
  refine R_icmp_ne (pc := 164) 193 dL_tells_164 (by decide) (fun c_164 => absurd rfl c_164) (fun c_164 => ?_)
  refine R_aload_n0 (pc := 167) dL_tells_167 ?_
  refine R_iconst (pc := 168) (v := 0) dL_tells_168 (by decide) ?_
  refine R_iconst (pc := 169) (v := 1) dL_tells_169 (by decide) ?_
  refine R_callV2 (pc := 170) (T := TX9) cal_X9_captain kw474 kw475 kw476 dL_tells_170 (c_X9_captain hC) (by decide) (Nat.le_of_ble_eq_true rfl) (ci := 7) rfl hC.self ?_
  rintro _ _ ⟨rfl, hC, -⟩
  rw [c02]
  refine R_bipush (pc := 173) (v := (-9)) dL_tells_173 (by decide) ?_
  refine R_icmp_ne (pc := 175) 193 dL_tells_175 (by decide) (fun c_175 => absurd rfl c_175) (fun c_175 => ?_)
  refine R_aload_n0 (pc := 178) dL_tells_178 ?_
  refine R_iconst (pc := 179) (v := 1) dL_tells_179 (by decide) ?_
  refine R_iload_n3 (pc := 180) dL_tells_180 ?_
  refine R_callV2 (pc := 181) (T := TX9) cal_X9_tell kw693 kw694 kw695 dL_tells_181 (c_X9_tell hC z2) (by decide) (Nat.le_of_ble_eq_true rfl) (ci := 7) rfl hC.self ?_
  rintro _ _ ⟨rfl, hC, -⟩
  rw [u4a, u4b, cact_m C2 (by decide)] at hC
  rw [u4a]
  refine R_bipush (pc := 184) (v := (-2)) dL_tells_184 (by decide) ?_
  refine R_icmp_ne (pc := 186) 193 dL_tells_186 (by decide) (fun c_186 => absurd rfl c_186) (fun c_186 => ?_)
  refine R_iconst (pc := 189) (v := 1) dL_tells_189 (by decide) ?_
  refine R_goto (pc := 190) 194 dL_tells_190 (by decide) ?_
  refine R_iret (pc := 194) rfl rfl dL_tells_194 ?_
  exact ⟨rfl, C2, hC, h2, m2, e22⟩

set_option maxHeartbeats 4000000 in
set_option maxRecDepth 100000 in
theorem LE_x (h : Inv sn T C.1.1) {c y a : Nat} (h64 : a < 64) (ha : p_cap C 0 0 = nI a) (K : ∀ x, x < 6 → a.testBit x = true → ∀ hh, CAt hh w C → RunM l D cA N0 m_L_tells 7 0 0 (PA w sn T C) hh 0 0 35 [some (.ref w), some (.int (nI c)), some (.int (nI x)), some (.int (nI y)), none, none] []) : ∀ (k x : Nat) (hh : AH), x < 6 → a.testBit ((x + k) % 6) = true → CAt hh w C → RunM l D cA N0 m_L_tells 7 0 0 (PA w sn T C) hh 0 0 12 [some (.ref w), some (.int (nI c)), some (.int (nI x)), some (.int (nI y)), none, none] [] := by
  intro k
  induction k with
  | zero =>
    intro x hh hx hk hC
    have hb : a.testBit x = true := by rw [show (x + 0) % 6 = x by omega] at hk; exact hk
    have hbit : nI a >>> (nI x &&& 31) &&& 1 = 1 := by rw [bit_fin ⟨a, h64⟩ ⟨x, hx⟩]; exact if_pos hb
    refine R_aload_n0 (pc := 12) dL_tells_12 ?_
    refine R_iconst (pc := 13) (v := 0) dL_tells_13 (by decide) ?_
    refine R_iconst (pc := 14) (v := 0) dL_tells_14 (by decide) ?_
    refine R_callV2 (pc := 15) (T := TX9) cal_X9_captain kw474 kw475 kw476 dL_tells_15 (c_X9_captain hC) (by decide) (Nat.le_of_ble_eq_true rfl) (ci := 7) rfl hC.self ?_
    rintro _ _ ⟨rfl, hC, -⟩
    rw [ha]
    refine R_iload_n2 (pc := 18) dL_tells_18 ?_
    refine R_ishr (pc := 19) dL_tells_19 ?_
    refine R_iconst (pc := 20) (v := 1) dL_tells_20 (by decide) ?_
    refine R_iand (pc := 21) dL_tells_21 ?_
    rw [hbit]
    refine R_if_ne (pc := 22) 35 dL_tells_22 (by decide) (fun c_22 => ?_) (fun c_22 => absurd c_22 (by decide))
    exact K _ hx hb _ hC
  | succ k ih =>
    intro x hh hx hk hC
    by_cases hb : a.testBit x = true
    · have hbit : nI a >>> (nI x &&& 31) &&& 1 = 1 := by rw [bit_fin ⟨a, h64⟩ ⟨x, hx⟩]; exact if_pos hb
      refine R_aload_n0 (pc := 12) dL_tells_12 ?_
      refine R_iconst (pc := 13) (v := 0) dL_tells_13 (by decide) ?_
      refine R_iconst (pc := 14) (v := 0) dL_tells_14 (by decide) ?_
      refine R_callV2 (pc := 15) (T := TX9) cal_X9_captain kw474 kw475 kw476 dL_tells_15 (c_X9_captain hC) (by decide) (Nat.le_of_ble_eq_true rfl) (ci := 7) rfl hC.self ?_
      rintro _ _ ⟨rfl, hC, -⟩
      rw [ha]
      refine R_iload_n2 (pc := 18) dL_tells_18 ?_
      refine R_ishr (pc := 19) dL_tells_19 ?_
      refine R_iconst (pc := 20) (v := 1) dL_tells_20 (by decide) ?_
      refine R_iand (pc := 21) dL_tells_21 ?_
      rw [hbit]
      refine R_if_ne (pc := 22) 35 dL_tells_22 (by decide) (fun c_22 => ?_) (fun c_22 => absurd c_22 (by decide))
      exact K _ hx hb _ hC
    · have hbit : nI a >>> (nI x &&& 31) &&& 1 = 0 := by rw [bit_fin ⟨a, h64⟩ ⟨x, hx⟩]; exact if_neg hb
      have hst : nI x + 1 - (nI x + 1) / 6 * 6 = nI ((x + 1) % 6) := by
        rw [nI_1]
        exact pk_rem (d := 6) (by omega) (by decide) (by decide)
      refine R_aload_n0 (pc := 12) dL_tells_12 ?_
      refine R_iconst (pc := 13) (v := 0) dL_tells_13 (by decide) ?_
      refine R_iconst (pc := 14) (v := 0) dL_tells_14 (by decide) ?_
      refine R_callV2 (pc := 15) (T := TX9) cal_X9_captain kw474 kw475 kw476 dL_tells_15 (c_X9_captain hC) (by decide) (Nat.le_of_ble_eq_true rfl) (ci := 7) rfl hC.self ?_
      rintro _ _ ⟨rfl, hC, -⟩
      rw [ha]
      refine R_iload_n2 (pc := 18) dL_tells_18 ?_
      refine R_ishr (pc := 19) dL_tells_19 ?_
      refine R_iconst (pc := 20) (v := 1) dL_tells_20 (by decide) ?_
      refine R_iand (pc := 21) dL_tells_21 ?_
      rw [hbit]
      refine R_if_ne (pc := 22) 35 dL_tells_22 (by decide) (fun c_22 => absurd rfl c_22) (fun c_22 => ?_)
      refine R_iload_n2 (pc := 25) dL_tells_25 ?_
      refine R_iconst (pc := 26) (v := 1) dL_tells_26 (by decide) ?_
      refine R_iadd (pc := 27) dL_tells_27 ?_
      refine R_bipush (pc := 28) (v := 6) dL_tells_28 (by decide) ?_
      refine R_irem (pc := 30) dL_tells_30 (by decide) ?_
      rw [hst]
      refine R_istore_n2 (pc := 31) dL_tells_31 rfl (by decide) ?_
      refine R_goto (pc := 32) 12 dL_tells_32 (by decide) ?_
      exact ih _ _ (Nat.mod_lt _ (by decide)) (by rw [show ((x + 1) % 6 + k) % 6 = (x + (k + 1)) % 6 by omega]; exact hk) hC

set_option maxHeartbeats 4000000 in
set_option maxRecDepth 100000 in
theorem LE_y (h : Inv sn T C.1.1) {c x b : Nat} (h64 : b < 64) (ha : p_cap C 1 0 = nI b) (K : ∀ y, y < 6 → b.testBit y = true → ∀ hh, CAt hh w C → RunM l D cA N0 m_L_tells 7 0 0 (PA w sn T C) hh 0 0 58 [some (.ref w), some (.int (nI c)), some (.int (nI x)), some (.int (nI y)), none, none] []) : ∀ (k y : Nat) (hh : AH), y < 6 → b.testBit ((y + k) % 6) = true → CAt hh w C → RunM l D cA N0 m_L_tells 7 0 0 (PA w sn T C) hh 0 0 35 [some (.ref w), some (.int (nI c)), some (.int (nI x)), some (.int (nI y)), none, none] [] := by
  intro k
  induction k with
  | zero =>
    intro y hh hx hk hC
    have hb : b.testBit y = true := by rw [show (y + 0) % 6 = y by omega] at hk; exact hk
    have hbit : nI b >>> (nI y &&& 31) &&& 1 = 1 := by rw [bit_fin ⟨b, h64⟩ ⟨y, hx⟩]; exact if_pos hb
    refine R_aload_n0 (pc := 35) dL_tells_35 ?_
    refine R_iconst (pc := 36) (v := 1) dL_tells_36 (by decide) ?_
    refine R_iconst (pc := 37) (v := 0) dL_tells_37 (by decide) ?_
    refine R_callV2 (pc := 38) (T := TX9) cal_X9_captain kw474 kw475 kw476 dL_tells_38 (c_X9_captain hC) (by decide) (Nat.le_of_ble_eq_true rfl) (ci := 7) rfl hC.self ?_
    rintro _ _ ⟨rfl, hC, -⟩
    rw [ha]
    refine R_iload_n3 (pc := 41) dL_tells_41 ?_
    refine R_ishr (pc := 42) dL_tells_42 ?_
    refine R_iconst (pc := 43) (v := 1) dL_tells_43 (by decide) ?_
    refine R_iand (pc := 44) dL_tells_44 ?_
    rw [hbit]
    refine R_if_ne (pc := 45) 58 dL_tells_45 (by decide) (fun c_45 => ?_) (fun c_45 => absurd c_45 (by decide))
    exact K _ hx hb _ hC
  | succ k ih =>
    intro y hh hx hk hC
    by_cases hb : b.testBit y = true
    · have hbit : nI b >>> (nI y &&& 31) &&& 1 = 1 := by rw [bit_fin ⟨b, h64⟩ ⟨y, hx⟩]; exact if_pos hb
      refine R_aload_n0 (pc := 35) dL_tells_35 ?_
      refine R_iconst (pc := 36) (v := 1) dL_tells_36 (by decide) ?_
      refine R_iconst (pc := 37) (v := 0) dL_tells_37 (by decide) ?_
      refine R_callV2 (pc := 38) (T := TX9) cal_X9_captain kw474 kw475 kw476 dL_tells_38 (c_X9_captain hC) (by decide) (Nat.le_of_ble_eq_true rfl) (ci := 7) rfl hC.self ?_
      rintro _ _ ⟨rfl, hC, -⟩
      rw [ha]
      refine R_iload_n3 (pc := 41) dL_tells_41 ?_
      refine R_ishr (pc := 42) dL_tells_42 ?_
      refine R_iconst (pc := 43) (v := 1) dL_tells_43 (by decide) ?_
      refine R_iand (pc := 44) dL_tells_44 ?_
      rw [hbit]
      refine R_if_ne (pc := 45) 58 dL_tells_45 (by decide) (fun c_45 => ?_) (fun c_45 => absurd c_45 (by decide))
      exact K _ hx hb _ hC
    · have hbit : nI b >>> (nI y &&& 31) &&& 1 = 0 := by rw [bit_fin ⟨b, h64⟩ ⟨y, hx⟩]; exact if_neg hb
      have hst : nI y + 1 - (nI y + 1) / 6 * 6 = nI ((y + 1) % 6) := by
        rw [nI_1]
        exact pk_rem (d := 6) (by omega) (by decide) (by decide)
      refine R_aload_n0 (pc := 35) dL_tells_35 ?_
      refine R_iconst (pc := 36) (v := 1) dL_tells_36 (by decide) ?_
      refine R_iconst (pc := 37) (v := 0) dL_tells_37 (by decide) ?_
      refine R_callV2 (pc := 38) (T := TX9) cal_X9_captain kw474 kw475 kw476 dL_tells_38 (c_X9_captain hC) (by decide) (Nat.le_of_ble_eq_true rfl) (ci := 7) rfl hC.self ?_
      rintro _ _ ⟨rfl, hC, -⟩
      rw [ha]
      refine R_iload_n3 (pc := 41) dL_tells_41 ?_
      refine R_ishr (pc := 42) dL_tells_42 ?_
      refine R_iconst (pc := 43) (v := 1) dL_tells_43 (by decide) ?_
      refine R_iand (pc := 44) dL_tells_44 ?_
      rw [hbit]
      refine R_if_ne (pc := 45) 58 dL_tells_45 (by decide) (fun c_45 => absurd rfl c_45) (fun c_45 => ?_)
      refine R_iload_n3 (pc := 48) dL_tells_48 ?_
      refine R_iconst (pc := 49) (v := 1) dL_tells_49 (by decide) ?_
      refine R_iadd (pc := 50) dL_tells_50 ?_
      refine R_bipush (pc := 51) (v := 6) dL_tells_51 (by decide) ?_
      refine R_irem (pc := 53) dL_tells_53 (by decide) ?_
      rw [hst]
      refine R_istore_n3 (pc := 54) dL_tells_54 rfl (by decide) ?_
      refine R_goto (pc := 55) 35 dL_tells_55 (by decide) ?_
      exact ih _ _ (Nat.mod_lt _ (by decide)) (by rw [show ((y + 1) % 6 + k) % 6 = (y + (k + 1)) % 6 by omega]; exact hk) hC

set_option maxHeartbeats 4000000 in
set_option maxRecDepth 100000 in
theorem c_L_tells {hh : AH} (h : Inv sn T C.1.1) (hz : sBz C.1) (hm : C.1.1.1 1 = 0) (hsn : 0 < sn) {c : Nat} (hc : c < 2 ^ 31) (hC : CAt hh w C) : Spec l D cA N0 m_L_tells 7 0 0 [.ref w, .int (nI c)] hh (PA w sn T C) := by
  obtain ⟨a, a0, a6, pa, ea⟩ := h.hand (c := 0) (by decide)
  obtain ⟨b, b0, b6, pb, eb⟩ := h.hand (c := 1) (by decide)
  have pa : p_cap C 0 0 = nI a := pa
  have pb : p_cap C 1 0 = nI b := pb
  obtain ⟨p, hp⟩ := hand_bit ⟨a, a6⟩ a0
  obtain ⟨q, hq⟩ := hand_bit ⟨b, b6⟩ b0
  have hm6 : nI c - nI c / 6 * 6 = nI (c % 6) := pk_rem (d := 6) hc (by decide) (by decide)
  have hm36 : nI c >>> ((3 : Int32) &&& 31) - nI c >>> ((3 : Int32) &&& 31) / 6 * 6 = nI (c / 2 ^ 3 % 6) := by
    rw [pk_shrN hc _ 3 (by decide)]
    exact pk_rem (d := 6) (Nat.lt_of_le_of_lt (Nat.div_le_self _ _) hc) (by decide) (by decide)
  refine Spec.of (L := [some (.ref w), some (.int (nI c)), none, none, none, none]) (by decide) rfl (Nat.le_of_ble_eq_true rfl) ?_
  refine R_iload_n1 (pc := 0) dL_tells_0 ?_
  refine R_bipush (pc := 1) (v := 6) dL_tells_1 (by decide) ?_
  refine R_irem (pc := 3) dL_tells_3 (by decide) ?_
  rw [hm6]
  refine R_istore_n2 (pc := 4) dL_tells_4 rfl (by decide) ?_
  refine R_iload_n1 (pc := 5) dL_tells_5 ?_
  refine R_iconst (pc := 6) (v := 3) dL_tells_6 (by decide) ?_
  refine R_ishr (pc := 7) dL_tells_7 ?_
  refine R_bipush (pc := 8) (v := 6) dL_tells_8 (by decide) ?_
  refine R_irem (pc := 10) dL_tells_10 (by decide) ?_
  rw [hm36]
  refine R_istore_n3 (pc := 11) dL_tells_11 rfl (by decide) ?_
  refine LE_x h a6 pa (fun x hx bx hh hC => ?_) ((p.1 + 6 - c % 6) % 6) _ _ (Nat.mod_lt _ (by decide)) (by rw [show (c % 6 + (p.1 + 6 - c % 6) % 6) % 6 = p.1 by have := p.2; omega]; exact hp) hC
  refine LE_y h b6 pb (fun y hy by' hh hC => ?_) ((q.1 + 6 - c / 2 ^ 3 % 6) % 6) _ _ (Nat.mod_lt _ (by decide)) (by rw [show (c / 2 ^ 3 % 6 + (q.1 + 6 - c / 2 ^ 3 % 6) % 6) % 6 = q.1 by have := q.2; omega]; exact hq) hC
  exact LE_tail h hz hm hsn a6 b6 ea eb hx hy bx by' hC

end LV35
