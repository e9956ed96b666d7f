/-! THE LAW: acts -/
theorem fire_self {sn T : Nat} {G : Gm} (h : Inv sn T G) {u : Nat} (hu : u < sn) (s : Int32) : k_fire G (nI u) s (nI u) = (-1, G) := by
  unfold k_fire
  rw [h.kn hu]
  dsimp only
  rw [if_pos (Or.inl rfl)]
theorem rl_t {G : Gm} {u sd : Nat} (hs : sd < 2) (h : rld G u (nI sd)) : (bI (G.1 0 < shF G u 9) + (if G.1 0 < shF G u 10 then 2 else 0)) >>> (nI sd &&& 31) &&& 1 = 1 := by
  unfold rld at h
  rcases (by omega : sd = 0 ∨ sd = 1) with rfl | rfl
  · rw [if_pos (show nI 0 = 0 from rfl)] at h
    rw [bI_t h]
    split <;> decide
  · rw [if_neg (show ¬ nI 1 = 0 by decide)] at h
    rw [if_pos h]
    unfold bI
    split <;> decide
theorem rl_f {G : Gm} {u sd : Nat} (hs : sd < 2) (h : ¬ rld G u (nI sd)) : (bI (G.1 0 < shF G u 9) + (if G.1 0 < shF G u 10 then 2 else 0)) >>> (nI sd &&& 31) &&& 1 = 0 := by
  unfold rld at h
  rcases (by omega : sd = 0 ∨ sd = 1) with rfl | rfl
  · rw [if_pos (show nI 0 = 0 from rfl)] at h
    rw [bI_f h]
    split <;> decide
  · rw [if_neg (show ¬ nI 1 = 0 by decide)] at h
    rw [if_neg h]
    unfold bI
    split <;> decide
theorem cpv {C : Cm} {c : Nat} (hc : c < 2) : p_cap C (nI c) 2 = cF C.1.1 c 2 := by
  rcases (by omega : c = 0 ∨ c = 1) with rfl | rfl <;> rfl
section LV34
variable {l : Launch} {D : va_G} {cA : Nat → ClassId} {N0 : Nat} {w b Ln : Nat} {xs : Nat → Int32} {sn T : Nat} {C : Cm}
set_option maxHeartbeats 4000000 in
set_option maxRecDepth 100000 in
theorem LT_0 (h : Inv sn T C.1.1) (hz : sBz C.1) (hm : C.1.1.1 1 = 1) {i j sd c : Nat} (hi : i < sn) (hj : j < sn) (hs : sd < 2) (hc : c < 2 ^ 31) {hh : AH} (hC : CAt hh w C) (hkd : c / 2 ^ 7 % 4 = 0) : RunM l D cA N0 m_L_acts 8 0 0 (PA w sn T C) hh 0 0 25 [some (.ref w), some (.int (nI c)), some (.int (nI sn)), some (.int (nI i)), some (.int (nI j)), some (.int (nI sd)), none, none, none, none] [] := by
  have hn := h.n
  have hj8 : j < 8 := by omega
  have hk4 : nI c >>> ((7 : Int32) &&& 31) - nI c >>> ((7 : Int32) &&& 31) / 4 * 4 = nI (c / 2 ^ 7 % 4) := by
    rw [pk_shrN hc _ 7 (by decide)]
    exact pk_rem (d := 4) (Nat.lt_of_le_of_lt (Nat.div_le_self _ _) hc) (by decide) (by decide)
  have h9 : nI c >>> ((9 : Int32) &&& 31) = nI (c / 2 ^ 9) := pk_shrN hc _ 9 (by decide)
  refine R_iload_n1 (pc := 25) dL_acts_25 ?_
  refine R_bipush (pc := 26) (v := 7) dL_acts_26 (by decide) ?_
  refine R_ishr (pc := 28) dL_acts_28 ?_
  refine R_iconst (pc := 29) (v := 4) dL_acts_29 (by decide) ?_
  refine R_irem (pc := 30) dL_acts_30 (by decide) ?_
  rw [hk4, hkd]
  refine R_if_ne (pc := 31) 44 dL_acts_31 (by decide) (fun c_31 => absurd rfl c_31) (fun c_31 => ?_)
  refine R_aload_n0 (pc := 34) dL_acts_34 ?_
  refine R_iload_n3 (pc := 35) dL_acts_35 ?_
  refine R_iload_n1 (pc := 36) dL_acts_36 ?_
  refine R_bipush (pc := 37) (v := 9) dL_acts_37 (by decide) ?_
  refine R_ishr (pc := 39) dL_acts_39 ?_
  rw [h9]
  refine R_callS3 (pc := 40) cal_L_isWay kw583 kw584 dL_acts_40 (c_L_isWay h hz hm hi (Nat.lt_of_le_of_lt (Nat.div_le_self _ _) hc) hC) (by decide) (Nat.le_of_ble_eq_true rfl) ?_
  rintro _ _ ⟨rfl, C2, hC, h2, m2, e2⟩
  refine R_iret (pc := 43) rfl rfl dL_acts_43 ?_
  exact ⟨rfl, C2, hC, h2, m2, e2⟩

set_option maxHeartbeats 4000000 in
set_option maxRecDepth 100000 in
theorem LT_1 (h : Inv sn T C.1.1) (hz : sBz C.1) (hm : C.1.1.1 1 = 1) {i j sd c : Nat} (hi : i < sn) (hj : j < sn) (hs : sd < 2) (hc : c < 2 ^ 31) {hh : AH} (hC : CAt hh w C) (hkd : c / 2 ^ 7 % 4 = 1) : RunM l D cA N0 m_L_acts 8 0 0 (PA w sn T C) hh 0 0 25 [some (.ref w), some (.int (nI c)), some (.int (nI sn)), some (.int (nI i)), some (.int (nI j)), some (.int (nI sd)), none, none, none, none] [] := by
  have hn := h.n
  have hj8 : j < 8 := by omega
  have hk4 : nI c >>> ((7 : Int32) &&& 31) - nI c >>> ((7 : Int32) &&& 31) / 4 * 4 = nI (c / 2 ^ 7 % 4) := by
    rw [pk_shrN hc _ 7 (by decide)]
    exact pk_rem (d := 4) (Nat.lt_of_le_of_lt (Nat.div_le_self _ _) hc) (by decide) (by decide)
  by_cases hij : i = j
  · have key : k_fire C.1.1 (nI i) (nI sd) (nI j) = (-1, C.1.1) := by rw [← hij]; exact fire_self h hi _
    have k1 := congrArg Prod.fst key
    have k2 := congrArg Prod.snd key
    dsimp only at k1 k2
    refine R_iload_n1 (pc := 25) dL_acts_25 ?_
    refine R_bipush (pc := 26) (v := 7) dL_acts_26 (by decide) ?_
    refine R_ishr (pc := 28) dL_acts_28 ?_
    refine R_iconst (pc := 29) (v := 4) dL_acts_29 (by decide) ?_
    refine R_irem (pc := 30) dL_acts_30 (by decide) ?_
    rw [hk4, hkd]
    refine R_if_ne (pc := 31) 44 dL_acts_31 (by decide) (fun c_31 => ?_) (fun c_31 => absurd c_31 (by decide))
    refine R_iload_n1 (pc := 44) dL_acts_44 ?_
    refine R_bipush (pc := 45) (v := 7) dL_acts_45 (by decide) ?_
    refine R_ishr (pc := 47) dL_acts_47 ?_
    refine R_iconst (pc := 48) (v := 4) dL_acts_48 (by decide) ?_
    refine R_irem (pc := 49) dL_acts_49 (by decide) ?_
    rw [hk4, hkd]
    refine R_iconst (pc := 50) (v := 1) dL_acts_50 (by decide) ?_
    refine R_icmp_ne (pc := 51) 225 dL_acts_51 (by decide) (fun c_51 => absurd rfl c_51) (fun c_51 => ?_)
    refine R_iload_n3 (pc := 54) dL_acts_54 ?_
    refine R_iload4 (pc := 55) dL_acts_55 ?_
    refine R_icmp_ne (pc := 57) 64 dL_acts_57 (by decide) (fun c_57 => absurd (congrArg nI hij) c_57) (fun c_57 => ?_)
    refine R_iconst (pc := 60) (v := (-1)) dL_acts_60 (by decide) ?_
    refine R_goto (pc := 61) 73 dL_acts_61 (by decide) ?_
    refine R_istore6 (pc := 73) dL_acts_73 rfl (by decide) ?_
    refine R_iload6 (pc := 75) dL_acts_75 ?_
    refine R_if_lt (pc := 77) 108 dL_acts_77 (by decide) (fun _ => ?_) (fun c0 => False.elim (by revert c0; decide))
    refine R_iconst (pc := 108) (v := 0) dL_acts_108 (by decide) ?_
    refine R_istore7 (pc := 109) dL_acts_109 rfl (by decide) ?_
    refine R_aload_n0 (pc := 111) dL_acts_111 ?_
    refine R_iload4 (pc := 112) dL_acts_112 ?_
    refine R_iconst (pc := 114) (v := 3) dL_acts_114 (by decide) ?_
    refine R_callV2 (pc := 115) (T := TX9) cal_X9_ship kw440 kw441 kw442 dL_acts_115 (c_X9_ship hC) (by decide) (Nat.le_of_ble_eq_true rfl) (ci := 7) rfl hC.self ?_
    rintro _ _ ⟨rfl, hC, -⟩
    refine R_istore8 (pc := 118) dL_acts_118 rfl (by decide) ?_
    refine R_aload_n0 (pc := 120) dL_acts_120 ?_
    refine R_iload_n3 (pc := 121) dL_acts_121 ?_
    refine R_iload5 (pc := 122) dL_acts_122 ?_
    refine R_iload4 (pc := 124) dL_acts_124 ?_
    refine R_callV3 (pc := 126) (T := TX9) cal_X9_fire kw620 kw621 kw622 dL_acts_126 (c_X9_fire hC hz) (by decide) (Nat.le_of_ble_eq_true rfl) (ci := 7) rfl hC.self ?_
    rintro _ _ ⟨rfl, hC, -⟩
    rw [k1, k2, cact_m C (by decide)] at hC
    rw [k1]
    refine R_istore9 (pc := 129) dL_acts_129 rfl (by decide) ?_
    refine R_iload9 (pc := 131) dL_acts_131 ?_
    refine R_iload_n3 (pc := 133) dL_acts_133 ?_
    refine R_iload4 (pc := 134) dL_acts_134 ?_
    refine R_icmp_ne (pc := 136) 143 dL_acts_136 (by decide) (fun c_136 => absurd (congrArg nI hij) c_136) (fun c_136 => ?_)
    refine R_iconst (pc := 139) (v := (-1)) dL_acts_139 (by decide) ?_
    refine R_goto (pc := 140) 155 dL_acts_140 (by decide) ?_
    refine R_icmp_ne (pc := 155) 223 dL_acts_155 (by decide) (fun c_155 => absurd rfl c_155) (fun c_155 => ?_)
    refine R_iload7 (pc := 158) dL_acts_158 ?_
    refine R_if_eq (pc := 160) 219 dL_acts_160 (by decide) (fun _ => ?_) (fun c0 => False.elim (by revert c0; decide))
    refine R_iconst (pc := 219) (v := 1) dL_acts_219 (by decide) ?_
    refine R_goto (pc := 220) 224 dL_acts_220 (by decide) ?_
    refine R_iret (pc := 224) rfl rfl dL_acts_224 ?_
    exact ⟨rfl, C, hC, h, hm, rfl⟩
  · have hne : ¬ nI i = nI j := nIne (by omega) (by omega) hij
    by_cases hsh : k_shot C.1.1 i (nI sd) j = 0
    · have key : k_fire C.1.1 (nI i) (nI sd) (nI j) = (-2, C.1.1) := fire_no h hi hj hij (sd01 hs) (Or.inl hsh)
      have k1 := congrArg Prod.fst key
      have k2 := congrArg Prod.snd key
      dsimp only at k1 k2
      refine R_iload_n1 (pc := 25) dL_acts_25 ?_
      refine R_bipush (pc := 26) (v := 7) dL_acts_26 (by decide) ?_
      refine R_ishr (pc := 28) dL_acts_28 ?_
      refine R_iconst (pc := 29) (v := 4) dL_acts_29 (by decide) ?_
      refine R_irem (pc := 30) dL_acts_30 (by decide) ?_
      rw [hk4, hkd]
      refine R_if_ne (pc := 31) 44 dL_acts_31 (by decide) (fun c_31 => ?_) (fun c_31 => absurd c_31 (by decide))
      refine R_iload_n1 (pc := 44) dL_acts_44 ?_
      refine R_bipush (pc := 45) (v := 7) dL_acts_45 (by decide) ?_
      refine R_ishr (pc := 47) dL_acts_47 ?_
      refine R_iconst (pc := 48) (v := 4) dL_acts_48 (by decide) ?_
      refine R_irem (pc := 49) dL_acts_49 (by decide) ?_
      rw [hk4, hkd]
      refine R_iconst (pc := 50) (v := 1) dL_acts_50 (by decide) ?_
      refine R_icmp_ne (pc := 51) 225 dL_acts_51 (by decide) (fun c_51 => absurd rfl c_51) (fun c_51 => ?_)
      refine R_iload_n3 (pc := 54) dL_acts_54 ?_
      refine R_iload4 (pc := 55) dL_acts_55 ?_
      refine R_icmp_ne (pc := 57) 64 dL_acts_57 (by decide) (fun c_57 => ?_) (fun c_57 => absurd c_57 hne)
      refine R_aload_n0 (pc := 64) dL_acts_64 ?_
      refine R_iload_n3 (pc := 65) dL_acts_65 ?_
      refine R_iload5 (pc := 66) dL_acts_66 ?_
      refine R_iload4 (pc := 68) dL_acts_68 ?_
      refine R_callV3 (pc := 70) (T := TX9) cal_X9_hits kw571 kw572 kw573 dL_acts_70 (c_X9_hits hC) (by decide) (Nat.le_of_ble_eq_true rfl) (ci := 7) rfl hC.self ?_
      rintro _ _ ⟨rfl, hC, -⟩
      rw [h.hit hi hj hij (sd01 hs), if_pos hsh]
      refine R_istore6 (pc := 73) dL_acts_73 rfl (by decide) ?_
      refine R_iload6 (pc := 75) dL_acts_75 ?_
      refine R_if_lt (pc := 77) 108 dL_acts_77 (by decide) (fun c_77 => ?_) (fun c_77 => absurd (by decide) c_77)
      refine R_iconst (pc := 108) (v := 0) dL_acts_108 (by decide) ?_
      refine R_istore7 (pc := 109) dL_acts_109 rfl (by decide) ?_
      refine R_aload_n0 (pc := 111) dL_acts_111 ?_
      refine R_iload4 (pc := 112) dL_acts_112 ?_
      refine R_iconst (pc := 114) (v := 3) dL_acts_114 (by decide) ?_
      refine R_callV2 (pc := 115) (T := TX9) cal_X9_ship kw440 kw441 kw442 dL_acts_115 (c_X9_ship hC) (by decide) (Nat.le_of_ble_eq_true rfl) (ci := 7) rfl hC.self ?_
      rintro _ _ ⟨rfl, hC, -⟩
      refine R_istore8 (pc := 118) dL_acts_118 rfl (by decide) ?_
      refine R_aload_n0 (pc := 120) dL_acts_120 ?_
      refine R_iload_n3 (pc := 121) dL_acts_121 ?_
      refine R_iload5 (pc := 122) dL_acts_122 ?_
      refine R_iload4 (pc := 124) dL_acts_124 ?_
      refine R_callV3 (pc := 126) (T := TX9) cal_X9_fire kw620 kw621 kw622 dL_acts_126 (c_X9_fire hC hz) (by decide) (Nat.le_of_ble_eq_true rfl) (ci := 7) rfl hC.self ?_
      rintro _ _ ⟨rfl, hC, -⟩
      rw [k1, k2, cact_m C (by decide)] at hC
      rw [k1]
      refine R_istore9 (pc := 129) dL_acts_129 rfl (by decide) ?_
      refine R_iload9 (pc := 131) dL_acts_131 ?_
      refine R_iload_n3 (pc := 133) dL_acts_133 ?_
      refine R_iload4 (pc := 134) dL_acts_134 ?_
      refine R_icmp_ne (pc := 136) 143 dL_acts_136 (by decide) (fun c_136 => ?_) (fun c_136 => absurd c_136 hne)
      refine R_iload7 (pc := 143) dL_acts_143 ?_
      refine R_if_eq (pc := 145) 153 dL_acts_145 (by decide) (fun _ => ?_) (fun c0 => False.elim (by revert c0; decide))
      refine R_bipush (pc := 153) (v := (-2)) dL_acts_153 (by decide) ?_
      refine R_icmp_ne (pc := 155) 223 dL_acts_155 (by decide) (fun c_155 => absurd rfl c_155) (fun c_155 => ?_)
      refine R_iload7 (pc := 158) dL_acts_158 ?_
      refine R_if_eq (pc := 160) 219 dL_acts_160 (by decide) (fun _ => ?_) (fun c0 => False.elim (by revert c0; decide))
      refine R_iconst (pc := 219) (v := 1) dL_acts_219 (by decide) ?_
      refine R_goto (pc := 220) 224 dL_acts_220 (by decide) ?_
      refine R_iret (pc := 224) rfl rfl dL_acts_224 ?_
      exact ⟨rfl, C, hC, h, hm, rfl⟩
    · by_cases hr : rld C.1.1 i (nI sd)
      · have key : k_fire C.1.1 (nI i) (nI sd) (nI j) = (-2, C.1.1) := fire_no h hi hj hij (sd01 hs) (Or.inr hr)
        have k1 := congrArg Prod.fst key
        have k2 := congrArg Prod.snd key
        dsimp only at k1 k2
        obtain ⟨q, hq, eq⟩ := h.hit_t hi hj hij (sd01 hs) (show tgb C.1.1 i (nI sd) j = true by unfold tgb; rw [decide_eq_false hsh]; rfl)
        refine R_iload_n1 (pc := 25) dL_acts_25 ?_
        refine R_bipush (pc := 26) (v := 7) dL_acts_26 (by decide) ?_
        refine R_ishr (pc := 28) dL_acts_28 ?_
        refine R_iconst (pc := 29) (v := 4) dL_acts_29 (by decide) ?_
        refine R_irem (pc := 30) dL_acts_30 (by decide) ?_
        rw [hk4, hkd]
        refine R_if_ne (pc := 31) 44 dL_acts_31 (by decide) (fun c_31 => ?_) (fun c_31 => absurd c_31 (by decide))
        refine R_iload_n1 (pc := 44) dL_acts_44 ?_
        refine R_bipush (pc := 45) (v := 7) dL_acts_45 (by decide) ?_
        refine R_ishr (pc := 47) dL_acts_47 ?_
        refine R_iconst (pc := 48) (v := 4) dL_acts_48 (by decide) ?_
        refine R_irem (pc := 49) dL_acts_49 (by decide) ?_
        rw [hk4, hkd]
        refine R_iconst (pc := 50) (v := 1) dL_acts_50 (by decide) ?_
        refine R_icmp_ne (pc := 51) 225 dL_acts_51 (by decide) (fun c_51 => absurd rfl c_51) (fun c_51 => ?_)
        refine R_iload_n3 (pc := 54) dL_acts_54 ?_
        refine R_iload4 (pc := 55) dL_acts_55 ?_
        refine R_icmp_ne (pc := 57) 64 dL_acts_57 (by decide) (fun c_57 => ?_) (fun c_57 => absurd c_57 hne)
        refine R_aload_n0 (pc := 64) dL_acts_64 ?_
        refine R_iload_n3 (pc := 65) dL_acts_65 ?_
        refine R_iload5 (pc := 66) dL_acts_66 ?_
        refine R_iload4 (pc := 68) dL_acts_68 ?_
        refine R_callV3 (pc := 70) (T := TX9) cal_X9_hits kw571 kw572 kw573 dL_acts_70 (c_X9_hits hC) (by decide) (Nat.le_of_ble_eq_true rfl) (ci := 7) rfl hC.self ?_
        rintro _ _ ⟨rfl, hC, -⟩
        rw [eq]
        refine R_istore6 (pc := 73) dL_acts_73 rfl (by decide) ?_
        refine R_iload6 (pc := 75) dL_acts_75 ?_
        refine R_if_lt (pc := 77) 108 dL_acts_77 (by decide) (fun c_77 => absurd c_77 (nI_pos (by omega))) (fun c_77 => ?_)
        refine R_aload_n0 (pc := 80) dL_acts_80 ?_
        refine R_iconst (pc := 81) (v := 1) dL_acts_81 (by decide) ?_
        refine R_callV1 (pc := 82) (T := TX9) cal_X9_count kw339 kw340 kw341 dL_acts_82 (c_X9_count hC) (by decide) (Nat.le_of_ble_eq_true rfl) (ci := 7) rfl hC.self ?_
        rintro _ _ ⟨rfl, hC, -⟩
        rw [ct1, hm, if_neg (by decide)]
        refine R_iconst (pc := 85) (v := 1) dL_acts_85 (by decide) ?_
        refine R_icmp_ne (pc := 86) 108 dL_acts_86 (by decide) (fun c_86 => absurd rfl c_86) (fun c_86 => ?_)
        refine R_aload_n0 (pc := 89) dL_acts_89 ?_
        refine R_iload_n3 (pc := 90) dL_acts_90 ?_
        refine R_bipush (pc := 91) (v := 9) dL_acts_91 (by decide) ?_
        refine R_callV2 (pc := 93) (T := TX9) cal_X9_ship kw440 kw441 kw442 dL_acts_93 (c_X9_ship hC) (by decide) (Nat.le_of_ble_eq_true rfl) (ci := 7) rfl hC.self ?_
        rintro _ _ ⟨rfl, hC, -⟩
        rw [h.sh9 hi]
        refine R_iload5 (pc := 96) dL_acts_96 ?_
        refine R_ishr (pc := 98) dL_acts_98 ?_
        refine R_iconst (pc := 99) (v := 1) dL_acts_99 (by decide) ?_
        refine R_iand (pc := 100) dL_acts_100 ?_
        rw [rl_t hs hr]
        refine R_if_ne (pc := 101) 108 dL_acts_101 (by decide) (fun c_101 => ?_) (fun c_101 => absurd c_101 (by decide))
        refine R_iconst (pc := 108) (v := 0) dL_acts_108 (by decide) ?_
        refine R_istore7 (pc := 109) dL_acts_109 rfl (by decide) ?_
        refine R_aload_n0 (pc := 111) dL_acts_111 ?_
        refine R_iload4 (pc := 112) dL_acts_112 ?_
        refine R_iconst (pc := 114) (v := 3) dL_acts_114 (by decide) ?_
        refine R_callV2 (pc := 115) (T := TX9) cal_X9_ship kw440 kw441 kw442 dL_acts_115 (c_X9_ship hC) (by decide) (Nat.le_of_ble_eq_true rfl) (ci := 7) rfl hC.self ?_
        rintro _ _ ⟨rfl, hC, -⟩
        refine R_istore8 (pc := 118) dL_acts_118 rfl (by decide) ?_
        refine R_aload_n0 (pc := 120) dL_acts_120 ?_
        refine R_iload_n3 (pc := 121) dL_acts_121 ?_
        refine R_iload5 (pc := 122) dL_acts_122 ?_
        refine R_iload4 (pc := 124) dL_acts_124 ?_
        refine R_callV3 (pc := 126) (T := TX9) cal_X9_fire kw620 kw621 kw622 dL_acts_126 (c_X9_fire hC hz) (by decide) (Nat.le_of_ble_eq_true rfl) (ci := 7) rfl hC.self ?_
        rintro _ _ ⟨rfl, hC, -⟩
        rw [k1, k2, cact_m C (by decide)] at hC
        rw [k1]
        refine R_istore9 (pc := 129) dL_acts_129 rfl (by decide) ?_
        refine R_iload9 (pc := 131) dL_acts_131 ?_
        refine R_iload_n3 (pc := 133) dL_acts_133 ?_
        refine R_iload4 (pc := 134) dL_acts_134 ?_
        refine R_icmp_ne (pc := 136) 143 dL_acts_136 (by decide) (fun c_136 => ?_) (fun c_136 => absurd c_136 hne)
        refine R_iload7 (pc := 143) dL_acts_143 ?_
        refine R_if_eq (pc := 145) 153 dL_acts_145 (by decide) (fun _ => ?_) (fun c0 => False.elim (by revert c0; decide))
        refine R_bipush (pc := 153) (v := (-2)) dL_acts_153 (by decide) ?_
        refine R_icmp_ne (pc := 155) 223 dL_acts_155 (by decide) (fun c_155 => absurd rfl c_155) (fun c_155 => ?_)
        refine R_iload7 (pc := 158) dL_acts_158 ?_
        refine R_if_eq (pc := 160) 219 dL_acts_160 (by decide) (fun _ => ?_) (fun c0 => False.elim (by revert c0; decide))
        refine R_iconst (pc := 219) (v := 1) dL_acts_219 (by decide) ?_
        refine R_goto (pc := 220) 224 dL_acts_220 (by decide) ?_
        refine R_iret (pc := 224) rfl rfl dL_acts_224 ?_
        exact ⟨rfl, C, hC, h, hm, rfl⟩
      · obtain ⟨q, H, hq, eh, key, hI, g1, f4, fr, again⟩ := h.fire hm hi hj hij (sd01 hs) hsh hr
        have mH : H.1 1 = 1 := by rw [g1]; exact hm
        have k1 := congrArg Prod.fst key
        have k2 := congrArg Prod.snd key
        dsimp only at k1 k2
        have hv4 : hv C.1.1 j 4 < 21 := (h.v4 hj8).2
        have hsT : nI q ≤ nI (hv C.1.1 j 4) → nI (hv_4 C.1.1 j - q) = nI (hv C.1.1 j 4) - nI q := fun z => (pk_sub ((nI_leI (by omega) (by omega)).mp z)).symm
        have hsF : ¬ nI q ≤ nI (hv C.1.1 j 4) → nI (hv_4 C.1.1 j - q) = 0 := fun z => by
          have : ¬ q ≤ hv C.1.1 j 4 := fun y => z ((nI_leI (by omega) (by omega)).mpr y)
          rw [show hv_4 C.1.1 j = hv C.1.1 j 4 from rfl, show hv C.1.1 j 4 - q = 0 by omega]; rfl
        refine R_iload_n1 (pc := 25) dL_acts_25 ?_
        refine R_bipush (pc := 26) (v := 7) dL_acts_26 (by decide) ?_
        refine R_ishr (pc := 28) dL_acts_28 ?_
        refine R_iconst (pc := 29) (v := 4) dL_acts_29 (by decide) ?_
        refine R_irem (pc := 30) dL_acts_30 (by decide) ?_
        rw [hk4, hkd]
        refine R_if_ne (pc := 31) 44 dL_acts_31 (by decide) (fun c_31 => ?_) (fun c_31 => absurd c_31 (by decide))
        refine R_iload_n1 (pc := 44) dL_acts_44 ?_
        refine R_bipush (pc := 45) (v := 7) dL_acts_45 (by decide) ?_
        refine R_ishr (pc := 47) dL_acts_47 ?_
        refine R_iconst (pc := 48) (v := 4) dL_acts_48 (by decide) ?_
        refine R_irem (pc := 49) dL_acts_49 (by decide) ?_
        rw [hk4, hkd]
        refine R_iconst (pc := 50) (v := 1) dL_acts_50 (by decide) ?_
        refine R_icmp_ne (pc := 51) 225 dL_acts_51 (by decide) (fun c_51 => absurd rfl c_51) (fun c_51 => ?_)
        refine R_iload_n3 (pc := 54) dL_acts_54 ?_
        refine R_iload4 (pc := 55) dL_acts_55 ?_
        refine R_icmp_ne (pc := 57) 64 dL_acts_57 (by decide) (fun c_57 => ?_) (fun c_57 => absurd c_57 hne)
        refine R_aload_n0 (pc := 64) dL_acts_64 ?_
        refine R_iload_n3 (pc := 65) dL_acts_65 ?_
        refine R_iload5 (pc := 66) dL_acts_66 ?_
        refine R_iload4 (pc := 68) dL_acts_68 ?_
        refine R_callV3 (pc := 70) (T := TX9) cal_X9_hits kw571 kw572 kw573 dL_acts_70 (c_X9_hits hC) (by decide) (Nat.le_of_ble_eq_true rfl) (ci := 7) rfl hC.self ?_
        rintro _ _ ⟨rfl, hC, -⟩
        rw [h.hit hi hj hij (sd01 hs), if_neg hsh, eh]
        refine R_istore6 (pc := 73) dL_acts_73 rfl (by decide) ?_
        refine R_iload6 (pc := 75) dL_acts_75 ?_
        refine R_if_lt (pc := 77) 108 dL_acts_77 (by decide) (fun c_77 => absurd c_77 (nI_pos (by omega))) (fun c_77 => ?_)
        refine R_aload_n0 (pc := 80) dL_acts_80 ?_
        refine R_iconst (pc := 81) (v := 1) dL_acts_81 (by decide) ?_
        refine R_callV1 (pc := 82) (T := TX9) cal_X9_count kw339 kw340 kw341 dL_acts_82 (c_X9_count hC) (by decide) (Nat.le_of_ble_eq_true rfl) (ci := 7) rfl hC.self ?_
        rintro _ _ ⟨rfl, hC, -⟩
        rw [ct1, hm, if_neg (by decide)]
        refine R_iconst (pc := 85) (v := 1) dL_acts_85 (by decide) ?_
        refine R_icmp_ne (pc := 86) 108 dL_acts_86 (by decide) (fun c_86 => absurd rfl c_86) (fun c_86 => ?_)
        refine R_aload_n0 (pc := 89) dL_acts_89 ?_
        refine R_iload_n3 (pc := 90) dL_acts_90 ?_
        refine R_bipush (pc := 91) (v := 9) dL_acts_91 (by decide) ?_
        refine R_callV2 (pc := 93) (T := TX9) cal_X9_ship kw440 kw441 kw442 dL_acts_93 (c_X9_ship hC) (by decide) (Nat.le_of_ble_eq_true rfl) (ci := 7) rfl hC.self ?_
        rintro _ _ ⟨rfl, hC, -⟩
        rw [h.sh9 hi]
        refine R_iload5 (pc := 96) dL_acts_96 ?_
        refine R_ishr (pc := 98) dL_acts_98 ?_
        refine R_iconst (pc := 99) (v := 1) dL_acts_99 (by decide) ?_
        refine R_iand (pc := 100) dL_acts_100 ?_
        rw [rl_f hs hr]
        refine R_if_ne (pc := 101) 108 dL_acts_101 (by decide) (fun c_101 => absurd rfl c_101) (fun c_101 => ?_)
        refine R_iconst (pc := 104) (v := 1) dL_acts_104 (by decide) ?_
        refine R_goto (pc := 105) 109 dL_acts_105 (by decide) ?_
        refine R_istore7 (pc := 109) dL_acts_109 rfl (by decide) ?_
        refine R_aload_n0 (pc := 111) dL_acts_111 ?_
        refine R_iload4 (pc := 112) dL_acts_112 ?_
        refine R_iconst (pc := 114) (v := 3) dL_acts_114 (by decide) ?_
        refine R_callV2 (pc := 115) (T := TX9) cal_X9_ship kw440 kw441 kw442 dL_acts_115 (c_X9_ship hC) (by decide) (Nat.le_of_ble_eq_true rfl) (ci := 7) rfl hC.self ?_
        rintro _ _ ⟨rfl, hC, -⟩
        rw [h.sh3 hj, (h.v4 hj8).1]
        refine R_istore8 (pc := 118) dL_acts_118 rfl (by decide) ?_
        refine R_aload_n0 (pc := 120) dL_acts_120 ?_
        refine R_iload_n3 (pc := 121) dL_acts_121 ?_
        refine R_iload5 (pc := 122) dL_acts_122 ?_
        refine R_iload4 (pc := 124) dL_acts_124 ?_
        refine R_callV3 (pc := 126) (T := TX9) cal_X9_fire kw620 kw621 kw622 dL_acts_126 (c_X9_fire hC hz) (by decide) (Nat.le_of_ble_eq_true rfl) (ci := 7) rfl hC.self ?_
        rintro _ _ ⟨rfl, hC, -⟩
        rw [k1, k2] at hC
        rw [k1]
        obtain ⟨C1, hC1, e1⟩ := act_out C (nI q) (H, C.1.2)
        rw [← hC1] at hC
        have h1 : Inv sn T C1.1.1 := by rw [e1]; exact hI
        have e12 : C1.1.2 = C.1.2 := by rw [e1]
        have eH : C1.1.1 = H := by rw [e1]
        have m1 : C1.1.1.1 1 = 1 := by rw [eH]; exact mH
        have z1 : sBz C1.1 := bz_of hz (Or.inr m1) e12
        have b4 : shF C1.1.1 j 4 = nI (hv_4 C.1.1 j - q) := by rw [eH]; exact f4
        have r1 : rld C1.1.1 i (nI sd) := by rw [eH]; exact fr
        have key2 : k_fire C1.1.1 (nI i) (nI sd) (nI j) = (-2, C1.1.1) := by rw [eH]; exact again
        have j1 := congrArg Prod.fst key2
        have j2 := congrArg Prod.snd key2
        dsimp only at j1 j2
        refine R_istore9 (pc := 129) dL_acts_129 rfl (by decide) ?_
        refine R_iload9 (pc := 131) dL_acts_131 ?_
        refine R_iload_n3 (pc := 133) dL_acts_133 ?_
        refine R_iload4 (pc := 134) dL_acts_134 ?_
        refine R_icmp_ne (pc := 136) 143 dL_acts_136 (by decide) (fun c_136 => ?_) (fun c_136 => absurd c_136 hne)
        refine R_iload7 (pc := 143) dL_acts_143 ?_
        refine R_if_eq (pc := 145) 153 dL_acts_145 (by decide) (fun c0 => False.elim (by revert c0; decide)) (fun _ => ?_)
        refine R_iload6 (pc := 148) dL_acts_148 ?_
        refine R_goto (pc := 150) 155 dL_acts_150 (by decide) ?_
        refine R_icmp_ne (pc := 155) 223 dL_acts_155 (by decide) (fun c_155 => absurd rfl c_155) (fun c_155 => ?_)
        refine R_iload7 (pc := 158) dL_acts_158 ?_
        refine R_if_eq (pc := 160) 219 dL_acts_160 (by decide) (fun c0 => False.elim (by revert c0; decide)) (fun _ => ?_)
        refine R_aload_n0 (pc := 163) dL_acts_163 ?_
        refine R_iload4 (pc := 164) dL_acts_164 ?_
        refine R_iconst (pc := 166) (v := 3) dL_acts_166 (by decide) ?_
        refine R_callV2 (pc := 167) (T := TX9) cal_X9_ship kw440 kw441 kw442 dL_acts_167 (c_X9_ship hC) (by decide) (Nat.le_of_ble_eq_true rfl) (ci := 7) rfl hC.self ?_
        rintro _ _ ⟨rfl, hC, -⟩
        rw [h1.sh3 hj, b4]
        refine R_iload6 (pc := 170) dL_acts_170 ?_
        refine R_iload8 (pc := 172) dL_acts_172 ?_
        refine R_icmp_le (pc := 174) 181 dL_acts_174 (by decide) (fun c_174 => ?_) (fun c_174 => ?_)
        · skip
          have d_174 := Int32.not_lt.mpr c_174
          refine R_iload8 (pc := 181) dL_acts_181 ?_
          refine R_iload6 (pc := 183) dL_acts_183 ?_
          refine R_isub (pc := 185) dL_acts_185 ?_
          refine R_icmp_ne (pc := 186) 223 dL_acts_186 (by decide) (fun c_186 => absurd (by first | exact hsT c_174 | exact hsF c_174) c_186) (fun c_186 => ?_)
          refine R_aload_n0 (pc := 189) dL_acts_189 ?_
          refine R_iload_n3 (pc := 190) dL_acts_190 ?_
          refine R_iload5 (pc := 191) dL_acts_191 ?_
          refine R_iload4 (pc := 193) dL_acts_193 ?_
          refine R_callV3 (pc := 195) (T := TX9) cal_X9_fire kw620 kw621 kw622 dL_acts_195 (c_X9_fire hC z1) (by decide) (Nat.le_of_ble_eq_true rfl) (ci := 7) rfl hC.self ?_
          rintro _ _ ⟨rfl, hC, -⟩
          rw [j1, j2, cact_m C1 (by decide)] at hC
          rw [j1]
          refine R_bipush (pc := 198) (v := (-2)) dL_acts_198 (by decide) ?_
          refine R_icmp_ne (pc := 200) 223 dL_acts_200 (by decide) (fun c_200 => absurd rfl c_200) (fun c_200 => ?_)
          refine R_aload_n0 (pc := 203) dL_acts_203 ?_
          refine R_iload_n3 (pc := 204) dL_acts_204 ?_
          refine R_bipush (pc := 205) (v := 9) dL_acts_205 (by decide) ?_
          refine R_callV2 (pc := 207) (T := TX9) cal_X9_ship kw440 kw441 kw442 dL_acts_207 (c_X9_ship hC) (by decide) (Nat.le_of_ble_eq_true rfl) (ci := 7) rfl hC.self ?_
          rintro _ _ ⟨rfl, hC, -⟩
          rw [h1.sh9 hi]
          refine R_iload5 (pc := 210) dL_acts_210 ?_
          refine R_ishr (pc := 212) dL_acts_212 ?_
          refine R_iconst (pc := 213) (v := 1) dL_acts_213 (by decide) ?_
          refine R_iand (pc := 214) dL_acts_214 ?_
          rw [rl_t hs r1]
          refine R_iconst (pc := 215) (v := 1) dL_acts_215 (by decide) ?_
          refine R_icmp_ne (pc := 216) 223 dL_acts_216 (by decide) (fun c_216 => absurd rfl c_216) (fun c_216 => ?_)
          refine R_iconst (pc := 219) (v := 1) dL_acts_219 (by decide) ?_
          refine R_goto (pc := 220) 224 dL_acts_220 (by decide) ?_
          refine R_iret (pc := 224) rfl rfl dL_acts_224 ?_
          exact ⟨rfl, C1, hC, h1, m1, e12⟩
        · skip
          have d_174 := Int32.not_le.mp c_174
          refine R_iconst (pc := 177) (v := 0) dL_acts_177 (by decide) ?_
          refine R_goto (pc := 178) 186 dL_acts_178 (by decide) ?_
          refine R_icmp_ne (pc := 186) 223 dL_acts_186 (by decide) (fun c_186 => absurd (by first | exact hsT c_174 | exact hsF c_174) c_186) (fun c_186 => ?_)
          refine R_aload_n0 (pc := 189) dL_acts_189 ?_
          refine R_iload_n3 (pc := 190) dL_acts_190 ?_
          refine R_iload5 (pc := 191) dL_acts_191 ?_
          refine R_iload4 (pc := 193) dL_acts_193 ?_
          refine R_callV3 (pc := 195) (T := TX9) cal_X9_fire kw620 kw621 kw622 dL_acts_195 (c_X9_fire hC z1) (by decide) (Nat.le_of_ble_eq_true rfl) (ci := 7) rfl hC.self ?_
          rintro _ _ ⟨rfl, hC, -⟩
          rw [j1, j2, cact_m C1 (by decide)] at hC
          rw [j1]
          refine R_bipush (pc := 198) (v := (-2)) dL_acts_198 (by decide) ?_
          refine R_icmp_ne (pc := 200) 223 dL_acts_200 (by decide) (fun c_200 => absurd rfl c_200) (fun c_200 => ?_)
          refine R_aload_n0 (pc := 203) dL_acts_203 ?_
          refine R_iload_n3 (pc := 204) dL_acts_204 ?_
          refine R_bipush (pc := 205) (v := 9) dL_acts_205 (by decide) ?_
          refine R_callV2 (pc := 207) (T := TX9) cal_X9_ship kw440 kw441 kw442 dL_acts_207 (c_X9_ship hC) (by decide) (Nat.le_of_ble_eq_true rfl) (ci := 7) rfl hC.self ?_
          rintro _ _ ⟨rfl, hC, -⟩
          rw [h1.sh9 hi]
          refine R_iload5 (pc := 210) dL_acts_210 ?_
          refine R_ishr (pc := 212) dL_acts_212 ?_
          refine R_iconst (pc := 213) (v := 1) dL_acts_213 (by decide) ?_
          refine R_iand (pc := 214) dL_acts_214 ?_
          rw [rl_t hs r1]
          refine R_iconst (pc := 215) (v := 1) dL_acts_215 (by decide) ?_
          refine R_icmp_ne (pc := 216) 223 dL_acts_216 (by decide) (fun c_216 => absurd rfl c_216) (fun c_216 => ?_)
          refine R_iconst (pc := 219) (v := 1) dL_acts_219 (by decide) ?_
          refine R_goto (pc := 220) 224 dL_acts_220 (by decide) ?_
          refine R_iret (pc := 224) rfl rfl dL_acts_224 ?_
          exact ⟨rfl, C1, hC, h1, m1, e12⟩

set_option maxHeartbeats 4000000 in
set_option maxRecDepth 100000 in
theorem LT_2 (h : Inv sn T C.1.1) (hz : sBz C.1) (hm : C.1.1.1 1 = 1) {i j sd c : Nat} (hi : i < sn) (hj : j < sn) (hs : sd < 2) (hc : c < 2 ^ 31) {hh : AH} (hC : CAt hh w C) (hkd : c / 2 ^ 7 % 4 = 2) : RunM l D cA N0 m_L_acts 8 0 0 (PA w sn T C) hh 0 0 25 [some (.ref w), some (.int (nI c)), some (.int (nI sn)), some (.int (nI i)), some (.int (nI j)), some (.int (nI sd)), none, none, none, none] [] := by
  have hn := h.n
  have hj8 : j < 8 := by omega
  have hk4 : nI c >>> ((7 : Int32) &&& 31) - nI c >>> ((7 : Int32) &&& 31) / 4 * 4 = nI (c / 2 ^ 7 % 4) := by
    rw [pk_shrN hc _ 7 (by decide)]
    exact pk_rem (d := 4) (Nat.lt_of_le_of_lt (Nat.div_le_self _ _) hc) (by decide) (by decide)
  by_cases hij : i = j
  · have key : k_grap C.1.1 (nI i) (nI j) = (-1, C.1.1) := by rw [← hij]; exact grap_self h hi
    have k1 := congrArg Prod.fst key
    have k2 := congrArg Prod.snd key
    dsimp only at k1 k2
    refine R_iload_n1 (pc := 25) dL_acts_25 ?_
    refine R_bipush (pc := 26) (v := 7) dL_acts_26 (by decide) ?_
    refine R_ishr (pc := 28) dL_acts_28 ?_
    refine R_iconst (pc := 29) (v := 4) dL_acts_29 (by decide) ?_
    refine R_irem (pc := 30) dL_acts_30 (by decide) ?_
    rw [hk4, hkd]
    refine R_if_ne (pc := 31) 44 dL_acts_31 (by decide) (fun c_31 => ?_) (fun c_31 => absurd c_31 (by decide))
    refine R_iload_n1 (pc := 44) dL_acts_44 ?_
    refine R_bipush (pc := 45) (v := 7) dL_acts_45 (by decide) ?_
    refine R_ishr (pc := 47) dL_acts_47 ?_
    refine R_iconst (pc := 48) (v := 4) dL_acts_48 (by decide) ?_
    refine R_irem (pc := 49) dL_acts_49 (by decide) ?_
    rw [hk4, hkd]
    refine R_iconst (pc := 50) (v := 1) dL_acts_50 (by decide) ?_
    refine R_icmp_ne (pc := 51) 225 dL_acts_51 (by decide) (fun c_51 => ?_) (fun c_51 => absurd c_51 (by decide))
    refine R_iload_n1 (pc := 225) dL_acts_225 ?_
    refine R_bipush (pc := 226) (v := 7) dL_acts_226 (by decide) ?_
    refine R_ishr (pc := 228) dL_acts_228 ?_
    refine R_iconst (pc := 229) (v := 4) dL_acts_229 (by decide) ?_
    refine R_irem (pc := 230) dL_acts_230 (by decide) ?_
    rw [hk4, hkd]
    refine R_iconst (pc := 231) (v := 2) dL_acts_231 (by decide) ?_
    refine R_icmp_ne (pc := 232) 359 dL_acts_232 (by decide) (fun c_232 => absurd rfl c_232) (fun c_232 => ?_)
    refine R_aload_n0 (pc := 235) dL_acts_235 ?_
    refine R_iload_n3 (pc := 236) dL_acts_236 ?_
    refine R_iload4 (pc := 237) dL_acts_237 ?_
    refine R_callV2 (pc := 239) (T := TX9) cal_X9_grapple kw643 kw644 kw645 dL_acts_239 (c_X9_grapple hC hz h.xr) (by decide) (Nat.le_of_ble_eq_true rfl) (ci := 7) rfl hC.self ?_
    rintro _ _ ⟨rfl, hC, -⟩
    rw [k1, k2, cact_m C (by decide)] at hC
    rw [k1]
    refine R_istore6 (pc := 242) dL_acts_242 rfl (by decide) ?_
    refine R_iload6 (pc := 244) dL_acts_244 ?_
    refine R_if_ge (pc := 246) 272 dL_acts_246 (by decide) (fun c_246 => absurd c_246 (by decide)) (fun c_246 => ?_)
    refine R_iload6 (pc := 249) dL_acts_249 ?_
    refine R_iload_n3 (pc := 251) dL_acts_251 ?_
    refine R_iload4 (pc := 252) dL_acts_252 ?_
    refine R_icmp_ne (pc := 254) 261 dL_acts_254 (by decide) (fun c_254 => absurd (congrArg nI hij) c_254) (fun c_254 => ?_)
    refine R_iconst (pc := 257) (v := (-1)) dL_acts_257 (by decide) ?_
    refine R_goto (pc := 258) 263 dL_acts_258 (by decide) ?_
    refine R_icmp_ne (pc := 263) 270 dL_acts_263 (by decide) (fun c_263 => absurd rfl c_263) (fun c_263 => ?_)
    refine R_iconst (pc := 266) (v := 1) dL_acts_266 (by decide) ?_
    refine R_goto (pc := 267) 271 dL_acts_267 (by decide) ?_
    refine R_iret (pc := 271) rfl rfl dL_acts_271 ?_
    exact ⟨rfl, C, hC, h, hm, rfl⟩
  · have hne : ¬ nI i = nI j := nIne (by omega) (by omega) hij
    rcases h.grap hi hj hij with key | ⟨H, key, hI, g1, f8, f8j, f9⟩
    · have k1 := congrArg Prod.fst key
      have k2 := congrArg Prod.snd key
      dsimp only at k1 k2
      refine R_iload_n1 (pc := 25) dL_acts_25 ?_
      refine R_bipush (pc := 26) (v := 7) dL_acts_26 (by decide) ?_
      refine R_ishr (pc := 28) dL_acts_28 ?_
      refine R_iconst (pc := 29) (v := 4) dL_acts_29 (by decide) ?_
      refine R_irem (pc := 30) dL_acts_30 (by decide) ?_
      rw [hk4, hkd]
      refine R_if_ne (pc := 31) 44 dL_acts_31 (by decide) (fun c_31 => ?_) (fun c_31 => absurd c_31 (by decide))
      refine R_iload_n1 (pc := 44) dL_acts_44 ?_
      refine R_bipush (pc := 45) (v := 7) dL_acts_45 (by decide) ?_
      refine R_ishr (pc := 47) dL_acts_47 ?_
      refine R_iconst (pc := 48) (v := 4) dL_acts_48 (by decide) ?_
      refine R_irem (pc := 49) dL_acts_49 (by decide) ?_
      rw [hk4, hkd]
      refine R_iconst (pc := 50) (v := 1) dL_acts_50 (by decide) ?_
      refine R_icmp_ne (pc := 51) 225 dL_acts_51 (by decide) (fun c_51 => ?_) (fun c_51 => absurd c_51 (by decide))
      refine R_iload_n1 (pc := 225) dL_acts_225 ?_
      refine R_bipush (pc := 226) (v := 7) dL_acts_226 (by decide) ?_
      refine R_ishr (pc := 228) dL_acts_228 ?_
      refine R_iconst (pc := 229) (v := 4) dL_acts_229 (by decide) ?_
      refine R_irem (pc := 230) dL_acts_230 (by decide) ?_
      rw [hk4, hkd]
      refine R_iconst (pc := 231) (v := 2) dL_acts_231 (by decide) ?_
      refine R_icmp_ne (pc := 232) 359 dL_acts_232 (by decide) (fun c_232 => absurd rfl c_232) (fun c_232 => ?_)
      refine R_aload_n0 (pc := 235) dL_acts_235 ?_
      refine R_iload_n3 (pc := 236) dL_acts_236 ?_
      refine R_iload4 (pc := 237) dL_acts_237 ?_
      refine R_callV2 (pc := 239) (T := TX9) cal_X9_grapple kw643 kw644 kw645 dL_acts_239 (c_X9_grapple hC hz h.xr) (by decide) (Nat.le_of_ble_eq_true rfl) (ci := 7) rfl hC.self ?_
      rintro _ _ ⟨rfl, hC, -⟩
      rw [k1, k2, cact_m C (by decide)] at hC
      rw [k1]
      refine R_istore6 (pc := 242) dL_acts_242 rfl (by decide) ?_
      refine R_iload6 (pc := 244) dL_acts_244 ?_
      refine R_if_ge (pc := 246) 272 dL_acts_246 (by decide) (fun c_246 => absurd c_246 (by decide)) (fun c_246 => ?_)
      refine R_iload6 (pc := 249) dL_acts_249 ?_
      refine R_iload_n3 (pc := 251) dL_acts_251 ?_
      refine R_iload4 (pc := 252) dL_acts_252 ?_
      refine R_icmp_ne (pc := 254) 261 dL_acts_254 (by decide) (fun c_254 => ?_) (fun c_254 => absurd c_254 hne)
      refine R_bipush (pc := 261) (v := (-2)) dL_acts_261 (by decide) ?_
      refine R_icmp_ne (pc := 263) 270 dL_acts_263 (by decide) (fun c_263 => absurd rfl c_263) (fun c_263 => ?_)
      refine R_iconst (pc := 266) (v := 1) dL_acts_266 (by decide) ?_
      refine R_goto (pc := 267) 271 dL_acts_267 (by decide) ?_
      refine R_iret (pc := 271) rfl rfl dL_acts_271 ?_
      exact ⟨rfl, C, hC, h, hm, rfl⟩
    · have mH : H.1 1 = 1 := by rw [g1]; exact hm
      have k1 := congrArg Prod.fst key
      have k2 := congrArg Prod.snd key
      dsimp only at k1 k2
      have hnn : 0 ≤ shF H i 6 + shF H j 6 := by
        have v1 := hI.v6 (i := i) (by omega)
        have v2 := hI.v6 (i := j) (by omega)
        rw [v1.1, v2.1, nI_add]; exact nI_pos' (by omega)
      refine R_iload_n1 (pc := 25) dL_acts_25 ?_
      refine R_bipush (pc := 26) (v := 7) dL_acts_26 (by decide) ?_
      refine R_ishr (pc := 28) dL_acts_28 ?_
      refine R_iconst (pc := 29) (v := 4) dL_acts_29 (by decide) ?_
      refine R_irem (pc := 30) dL_acts_30 (by decide) ?_
      rw [hk4, hkd]
      refine R_if_ne (pc := 31) 44 dL_acts_31 (by decide) (fun c_31 => ?_) (fun c_31 => absurd c_31 (by decide))
      refine R_iload_n1 (pc := 44) dL_acts_44 ?_
      refine R_bipush (pc := 45) (v := 7) dL_acts_45 (by decide) ?_
      refine R_ishr (pc := 47) dL_acts_47 ?_
      refine R_iconst (pc := 48) (v := 4) dL_acts_48 (by decide) ?_
      refine R_irem (pc := 49) dL_acts_49 (by decide) ?_
      rw [hk4, hkd]
      refine R_iconst (pc := 50) (v := 1) dL_acts_50 (by decide) ?_
      refine R_icmp_ne (pc := 51) 225 dL_acts_51 (by decide) (fun c_51 => ?_) (fun c_51 => absurd c_51 (by decide))
      refine R_iload_n1 (pc := 225) dL_acts_225 ?_
      refine R_bipush (pc := 226) (v := 7) dL_acts_226 (by decide) ?_
      refine R_ishr (pc := 228) dL_acts_228 ?_
      refine R_iconst (pc := 229) (v := 4) dL_acts_229 (by decide) ?_
      refine R_irem (pc := 230) dL_acts_230 (by decide) ?_
      rw [hk4, hkd]
      refine R_iconst (pc := 231) (v := 2) dL_acts_231 (by decide) ?_
      refine R_icmp_ne (pc := 232) 359 dL_acts_232 (by decide) (fun c_232 => absurd rfl c_232) (fun c_232 => ?_)
      refine R_aload_n0 (pc := 235) dL_acts_235 ?_
      refine R_iload_n3 (pc := 236) dL_acts_236 ?_
      refine R_iload4 (pc := 237) dL_acts_237 ?_
      refine R_callV2 (pc := 239) (T := TX9) cal_X9_grapple kw643 kw644 kw645 dL_acts_239 (c_X9_grapple hC hz h.xr) (by decide) (Nat.le_of_ble_eq_true rfl) (ci := 7) rfl hC.self ?_
      rintro _ _ ⟨rfl, hC, -⟩
      rw [k1, k2] at hC
      rw [k1]
      obtain ⟨C1, hC1, e1⟩ := act_out C (shF H i 6 + shF H j 6) (H, C.1.2)
      rw [← hC1] at hC
      have h1 : Inv sn T C1.1.1 := by rw [e1]; exact hI
      have e12 : C1.1.2 = C.1.2 := by rw [e1]
      have eH : C1.1.1 = H := by rw [e1]
      have m1 : C1.1.1.1 1 = 1 := by rw [eH]; exact mH
      have z1 : sBz C1.1 := bz_of hz (Or.inr m1) e12
      have b8 : shF C1.1.1 i 8 = nI j := by rw [eH]; exact f8
      have b9 : k_now C1.1.1 i = 0 := by rw [eH]; exact f9
      obtain ⟨H2, ckey, hI2, cg, c6⟩ := h1.cut m1 hi hj b8
      have j1 := congrArg Prod.fst ckey
      have j2 := congrArg Prod.snd ckey
      dsimp only at j1 j2
      refine R_istore6 (pc := 242) dL_acts_242 rfl (by decide) ?_
      refine R_iload6 (pc := 244) dL_acts_244 ?_
      refine R_if_ge (pc := 246) 272 dL_acts_246 (by decide) (fun c_246 => ?_) (fun c_246 => absurd hnn c_246)
      refine R_aload_n0 (pc := 272) dL_acts_272 ?_
      refine R_iload_n3 (pc := 273) dL_acts_273 ?_
      refine R_bipush (pc := 274) (v := 7) dL_acts_274 (by decide) ?_
      refine R_callV2 (pc := 276) (T := TX9) cal_X9_ship kw440 kw441 kw442 dL_acts_276 (c_X9_ship hC) (by decide) (Nat.le_of_ble_eq_true rfl) (ci := 7) rfl hC.self ?_
      rintro _ _ ⟨rfl, hC, -⟩
      rw [h1.sh7 hi, b8]
      refine R_iload4 (pc := 279) dL_acts_279 ?_
      refine R_icmp_ne (pc := 281) 357 dL_acts_281 (by decide) (fun c_281 => absurd rfl c_281) (fun c_281 => ?_)
      refine R_aload_n0 (pc := 284) dL_acts_284 ?_
      refine R_iload_n3 (pc := 285) dL_acts_285 ?_
      refine R_bipush (pc := 286) (v := 8) dL_acts_286 (by decide) ?_
      refine R_callV2 (pc := 288) (T := TX9) cal_X9_ship kw440 kw441 kw442 dL_acts_288 (c_X9_ship hC) (by decide) (Nat.le_of_ble_eq_true rfl) (ci := 7) rfl hC.self ?_
      rintro _ _ ⟨rfl, hC, -⟩
      rw [h1.sh8 hi, b9]
      refine R_if_ne (pc := 291) 357 dL_acts_291 (by decide) (fun c_291 => absurd rfl c_291) (fun c_291 => ?_)
      refine R_iload6 (pc := 294) dL_acts_294 ?_
      refine R_aload_n0 (pc := 296) dL_acts_296 ?_
      refine R_iload_n3 (pc := 297) dL_acts_297 ?_
      refine R_iconst (pc := 298) (v := 5) dL_acts_298 (by decide) ?_
      refine R_callV2 (pc := 299) (T := TX9) cal_X9_ship kw440 kw441 kw442 dL_acts_299 (c_X9_ship hC) (by decide) (Nat.le_of_ble_eq_true rfl) (ci := 7) rfl hC.self ?_
      rintro _ _ ⟨rfl, hC, -⟩
      rw [h1.sh5 hi]
      refine R_aload_n0 (pc := 302) dL_acts_302 ?_
      refine R_iload4 (pc := 303) dL_acts_303 ?_
      refine R_iconst (pc := 305) (v := 5) dL_acts_305 (by decide) ?_
      refine R_callV2 (pc := 306) (T := TX9) cal_X9_ship kw440 kw441 kw442 dL_acts_306 (c_X9_ship hC) (by decide) (Nat.le_of_ble_eq_true rfl) (ci := 7) rfl hC.self ?_
      rintro _ _ ⟨rfl, hC, -⟩
      rw [h1.sh5 hj]
      refine R_iadd (pc := 309) dL_acts_309 ?_
      refine R_icmp_ne (pc := 310) 357 dL_acts_310 (by decide) (fun c_310 => absurd (by rw [eH]) c_310) (fun c_310 => ?_)
      refine R_iload_n1 (pc := 313) dL_acts_313 ?_
      refine R_bipush (pc := 314) (v := 10) dL_acts_314 (by decide) ?_
      refine R_ishr (pc := 316) dL_acts_316 ?_
      refine R_iconst (pc := 317) (v := 2) dL_acts_317 (by decide) ?_
      refine R_irem (pc := 318) dL_acts_318 (by decide) ?_
      refine R_if_eq (pc := 319) 353 dL_acts_319 (by decide) (fun c_319 => ?_) (fun c_319 => ?_)
      · skip
        refine R_iconst (pc := 353) (v := 1) dL_acts_353 (by decide) ?_
        refine R_goto (pc := 354) 358 dL_acts_354 (by decide) ?_
        refine R_iret (pc := 358) rfl rfl dL_acts_358 ?_
        exact ⟨rfl, C1, hC, h1, m1, e12⟩
      · skip
        refine R_aload_n0 (pc := 322) dL_acts_322 ?_
        refine R_iload_n3 (pc := 323) dL_acts_323 ?_
        refine R_callV1 (pc := 324) (T := TX9) cal_X9_cut kw656 kw657 kw658 dL_acts_324 (c_X9_cut hC z1) (by decide) (Nat.le_of_ble_eq_true rfl) (ci := 7) rfl hC.self ?_
        rintro _ _ ⟨rfl, hC, -⟩
        rw [j1, j2] at hC
        rw [j1]
        obtain ⟨C2, hC2, e2⟩ := act_out C1 (if shF C1.1.1 i 6 < shF C1.1.1 j 6 then -2 else nI j) (H2, C1.1.2)
        rw [← hC2] at hC
        have eH2 : C2.1.1 = H2 := by rw [e2]
        have h2 : Inv sn T C2.1.1 := by rw [eH2]; exact hI2
        have m2 : C2.1.1.1 1 = 1 := by rw [eH2, cg]; exact m1
        have e22 : C2.1.2 = C.1.2 := by rw [e2]; exact e12
        have d6 : shF C2.1.1 i 6 = shF C1.1.1 i 6 := by rw [eH2]; exact c6 i (by omega)
        have d7 : shF C2.1.1 j 6 = shF C1.1.1 j 6 := by rw [eH2]; exact c6 j (by omega)
        refine R_aload_n0 (pc := 327) dL_acts_327 ?_
        refine R_iload_n3 (pc := 328) dL_acts_328 ?_
        refine R_iconst (pc := 329) (v := 5) dL_acts_329 (by decide) ?_
        refine R_callV2 (pc := 330) (T := TX9) cal_X9_ship kw440 kw441 kw442 dL_acts_330 (c_X9_ship hC) (by decide) (Nat.le_of_ble_eq_true rfl) (ci := 7) rfl hC.self ?_
        rintro _ _ ⟨rfl, hC, -⟩
        rw [h2.sh5 hi, d6]
        refine R_aload_n0 (pc := 333) dL_acts_333 ?_
        refine R_iload4 (pc := 334) dL_acts_334 ?_
        refine R_iconst (pc := 336) (v := 5) dL_acts_336 (by decide) ?_
        refine R_callV2 (pc := 337) (T := TX9) cal_X9_ship kw440 kw441 kw442 dL_acts_337 (c_X9_ship hC) (by decide) (Nat.le_of_ble_eq_true rfl) (ci := 7) rfl hC.self ?_
        rintro _ _ ⟨rfl, hC, -⟩
        rw [h2.sh5 hj, d7]
        refine R_icmp_ge (pc := 340) 348 dL_acts_340 (by decide) (fun c_340 => ?_) (fun c_340 => ?_)
        · skip
          have d_340 := Int32.not_lt.mpr c_340
          refine R_iload4 (pc := 348) dL_acts_348 ?_
          refine R_icmp_ne (pc := 350) 357 dL_acts_350 (by decide) (fun c_350 => absurd (by first | exact if_neg (Int32.not_lt.mpr c_340) | exact if_pos (Int32.not_le.mp c_340)) c_350) (fun c_350 => ?_)
          refine R_iconst (pc := 353) (v := 1) dL_acts_353 (by decide) ?_
          refine R_goto (pc := 354) 358 dL_acts_354 (by decide) ?_
          refine R_iret (pc := 358) rfl rfl dL_acts_358 ?_
          exact ⟨rfl, C2, hC, h2, m2, e22⟩
        · skip
          have d_340 := Int32.not_le.mp c_340
          refine R_bipush (pc := 343) (v := (-2)) dL_acts_343 (by decide) ?_
          refine R_goto (pc := 345) 350 dL_acts_345 (by decide) ?_
          refine R_icmp_ne (pc := 350) 357 dL_acts_350 (by decide) (fun c_350 => absurd (by first | exact if_neg (Int32.not_lt.mpr c_340) | exact if_pos (Int32.not_le.mp c_340)) c_350) (fun c_350 => ?_)
          refine R_iconst (pc := 353) (v := 1) dL_acts_353 (by decide) ?_
          refine R_goto (pc := 354) 358 dL_acts_354 (by decide) ?_
          refine R_iret (pc := 358) rfl rfl dL_acts_358 ?_
          exact ⟨rfl, C2, hC, h2, m2, e22⟩

set_option maxHeartbeats 4000000 in
set_option maxRecDepth 100000 in
theorem LT_3 (h : Inv sn T C.1.1) (hz : sBz C.1) (hm : C.1.1.1 1 = 1) {i j sd c : Nat} (hi : i < sn) (hj : j < sn) (hs : sd < 2) (hc : c < 2 ^ 31) {hh : AH} (hC : CAt hh w C) (hkd : c / 2 ^ 7 % 4 = 3) : RunM l D cA N0 m_L_acts 8 0 0 (PA w sn T C) hh 0 0 25 [some (.ref w), some (.int (nI c)), some (.int (nI sn)), some (.int (nI i)), some (.int (nI j)), some (.int (nI sd)), none, none, none, none] [] := by
  have hn := h.n
  have hj8 : j < 8 := by omega
  have hk4 : nI c >>> ((7 : Int32) &&& 31) - nI c >>> ((7 : Int32) &&& 31) / 4 * 4 = nI (c / 2 ^ 7 % 4) := by
    rw [pk_shrN hc _ 7 (by decide)]
    exact pk_rem (d := 4) (Nat.lt_of_le_of_lt (Nat.div_le_self _ _) hc) (by decide) (by decide)
  have h103 : nI c >>> ((10 : Int32) &&& 31) - nI c >>> ((10 : Int32) &&& 31) / 3 * 3 = nI (c / 2 ^ 10 % 3) := by
    rw [pk_shrN hc _ 10 (by decide)]
    exact pk_rem (d := 3) (Nat.lt_of_le_of_lt (Nat.div_le_self _ _) hc) (by decide) (by decide)
  obtain ⟨cc, hcc, ec⟩ := h.s1 (i := i) (by omega)
  obtain ⟨tb, htb, et⟩ := (h.cp cc hcc).2.2
  have hw3 : c / 2 ^ 10 % 3 < 3 := Nat.mod_lt _ (by decide)
  rcases h.mend hm hi hcc ec htb et hw3 with key | ⟨q, H, hq, hq20, key, hI, mH, hrc, ft, f1, f11, again⟩
  · have k1 := congrArg Prod.fst key
    have k2 := congrArg Prod.snd key
    dsimp only at k1 k2
    refine R_iload_n1 (pc := 25) dL_acts_25 ?_
    refine R_bipush (pc := 26) (v := 7) dL_acts_26 (by decide) ?_
    refine R_ishr (pc := 28) dL_acts_28 ?_
    refine R_iconst (pc := 29) (v := 4) dL_acts_29 (by decide) ?_
    refine R_irem (pc := 30) dL_acts_30 (by decide) ?_
    rw [hk4, hkd]
    refine R_if_ne (pc := 31) 44 dL_acts_31 (by decide) (fun c_31 => ?_) (fun c_31 => absurd c_31 (by decide))
    refine R_iload_n1 (pc := 44) dL_acts_44 ?_
    refine R_bipush (pc := 45) (v := 7) dL_acts_45 (by decide) ?_
    refine R_ishr (pc := 47) dL_acts_47 ?_
    refine R_iconst (pc := 48) (v := 4) dL_acts_48 (by decide) ?_
    refine R_irem (pc := 49) dL_acts_49 (by decide) ?_
    rw [hk4, hkd]
    refine R_iconst (pc := 50) (v := 1) dL_acts_50 (by decide) ?_
    refine R_icmp_ne (pc := 51) 225 dL_acts_51 (by decide) (fun c_51 => ?_) (fun c_51 => absurd c_51 (by decide))
    refine R_iload_n1 (pc := 225) dL_acts_225 ?_
    refine R_bipush (pc := 226) (v := 7) dL_acts_226 (by decide) ?_
    refine R_ishr (pc := 228) dL_acts_228 ?_
    refine R_iconst (pc := 229) (v := 4) dL_acts_229 (by decide) ?_
    refine R_irem (pc := 230) dL_acts_230 (by decide) ?_
    rw [hk4, hkd]
    refine R_iconst (pc := 231) (v := 2) dL_acts_231 (by decide) ?_
    refine R_icmp_ne (pc := 232) 359 dL_acts_232 (by decide) (fun c_232 => ?_) (fun c_232 => absurd c_232 (by decide))
    refine R_aload_n0 (pc := 359) dL_acts_359 ?_
    refine R_aload_n0 (pc := 360) dL_acts_360 ?_
    refine R_iload_n3 (pc := 361) dL_acts_361 ?_
    refine R_iconst (pc := 362) (v := 0) dL_acts_362 (by decide) ?_
    refine R_callV2 (pc := 363) (T := TX9) cal_X9_ship kw440 kw441 kw442 dL_acts_363 (c_X9_ship hC) (by decide) (Nat.le_of_ble_eq_true rfl) (ci := 7) rfl hC.self ?_
    rintro _ _ ⟨rfl, hC, -⟩
    rw [h.sh0 hi, ec]
    refine R_iconst (pc := 366) (v := 2) dL_acts_366 (by decide) ?_
    refine R_callV2 (pc := 367) (T := TX9) cal_X9_captain kw474 kw475 kw476 dL_acts_367 (c_X9_captain hC) (by decide) (Nat.le_of_ble_eq_true rfl) (ci := 7) rfl hC.self ?_
    rintro _ _ ⟨rfl, hC, -⟩
    rw [cpv hcc, et]
    refine R_istore6 (pc := 370) dL_acts_370 rfl (by decide) ?_
    refine R_iload_n1 (pc := 372) dL_acts_372 ?_
    refine R_bipush (pc := 373) (v := 10) dL_acts_373 (by decide) ?_
    refine R_ishr (pc := 375) dL_acts_375 ?_
    refine R_iconst (pc := 376) (v := 3) dL_acts_376 (by decide) ?_
    refine R_irem (pc := 377) dL_acts_377 (by decide) ?_
    rw [h103]
    refine R_istore7 (pc := 378) dL_acts_378 rfl (by decide) ?_
    refine R_aload_n0 (pc := 380) dL_acts_380 ?_
    refine R_iload_n3 (pc := 381) dL_acts_381 ?_
    refine R_iload7 (pc := 382) dL_acts_382 ?_
    refine R_callV2 (pc := 384) (T := TX9) cal_X9_repair kw664 kw665 kw666 dL_acts_384 (c_X9_repair hC hz) (by decide) (Nat.le_of_ble_eq_true rfl) (ci := 7) rfl hC.self ?_
    rintro _ _ ⟨rfl, hC, -⟩
    rw [k1, k2, cact_m C (by decide)] at hC
    rw [k1]
    refine R_istore8 (pc := 387) dL_acts_387 rfl (by decide) ?_
    refine R_iload7 (pc := 389) dL_acts_389 ?_
    refine R_if_ne (pc := 391) 399 dL_acts_391 (by decide) (fun c_391 => ?_) (fun c_391 => ?_)
    · skip
      refine R_iload7 (pc := 399) dL_acts_399 ?_
      refine R_iconst (pc := 401) (v := 1) dL_acts_401 (by decide) ?_
      refine R_iadd (pc := 402) dL_acts_402 ?_
      refine R_istore9 (pc := 403) dL_acts_403 rfl (by decide) ?_
      refine R_iload8 (pc := 405) dL_acts_405 ?_
      refine R_bipush (pc := 407) (v := (-2)) dL_acts_407 (by decide) ?_
      refine R_icmp_eq (pc := 409) 459 dL_acts_409 (by decide) (fun c_409 => ?_) (fun c_409 => absurd rfl c_409)
      refine R_iconst (pc := 459) (v := 1) dL_acts_459 (by decide) ?_
      refine R_goto (pc := 460) 464 dL_acts_460 (by decide) ?_
      refine R_iret (pc := 464) rfl rfl dL_acts_464 ?_
      exact ⟨rfl, C, hC, h, hm, rfl⟩
    · skip
      refine R_iload8 (pc := 394) dL_acts_394 ?_
      refine R_goto (pc := 396) 403 dL_acts_396 (by decide) ?_
      refine R_istore9 (pc := 403) dL_acts_403 rfl (by decide) ?_
      refine R_iload8 (pc := 405) dL_acts_405 ?_
      refine R_bipush (pc := 407) (v := (-2)) dL_acts_407 (by decide) ?_
      refine R_icmp_eq (pc := 409) 459 dL_acts_409 (by decide) (fun c_409 => ?_) (fun c_409 => absurd rfl c_409)
      refine R_iconst (pc := 459) (v := 1) dL_acts_459 (by decide) ?_
      refine R_goto (pc := 460) 464 dL_acts_460 (by decide) ?_
      refine R_iret (pc := 464) rfl rfl dL_acts_464 ?_
      exact ⟨rfl, C, hC, h, hm, rfl⟩
  · have k1 := congrArg Prod.fst key
    have k2 := congrArg Prod.snd key
    dsimp only at k1 k2
    have hq2 : ¬ nI q = -2 := fun z => absurd (nI_pos' (n := q) (by omega)) (by rw [z]; decide)
    have hcF : nI (c / 2 ^ 10 % 3) = 0 → nI (tb - rc (c / 2 ^ 10 % 3) q) = nI tb - nI q := fun z => by
      have z0 : c / 2 ^ 10 % 3 = 0 := (nI_eq (b := 0) (by omega) (by decide)).mp z
      rw [← pk_sub hrc]
      unfold rc
      rw [if_pos z0]
    have hcT : ¬ nI (c / 2 ^ 10 % 3) = 0 → nI (tb - rc (c / 2 ^ 10 % 3) q) = nI tb - (nI (c / 2 ^ 10 % 3) + 1) := fun z => by
      have z0 : ¬ c / 2 ^ 10 % 3 = 0 := fun y => z (by rw [y]; rfl)
      rw [← pk_sub hrc]
      unfold rc
      rw [if_neg z0, show (1 : Int32) = nI 1 from rfl, nI_add]
    refine R_iload_n1 (pc := 25) dL_acts_25 ?_
    refine R_bipush (pc := 26) (v := 7) dL_acts_26 (by decide) ?_
    refine R_ishr (pc := 28) dL_acts_28 ?_
    refine R_iconst (pc := 29) (v := 4) dL_acts_29 (by decide) ?_
    refine R_irem (pc := 30) dL_acts_30 (by decide) ?_
    rw [hk4, hkd]
    refine R_if_ne (pc := 31) 44 dL_acts_31 (by decide) (fun c_31 => ?_) (fun c_31 => absurd c_31 (by decide))
    refine R_iload_n1 (pc := 44) dL_acts_44 ?_
    refine R_bipush (pc := 45) (v := 7) dL_acts_45 (by decide) ?_
    refine R_ishr (pc := 47) dL_acts_47 ?_
    refine R_iconst (pc := 48) (v := 4) dL_acts_48 (by decide) ?_
    refine R_irem (pc := 49) dL_acts_49 (by decide) ?_
    rw [hk4, hkd]
    refine R_iconst (pc := 50) (v := 1) dL_acts_50 (by decide) ?_
    refine R_icmp_ne (pc := 51) 225 dL_acts_51 (by decide) (fun c_51 => ?_) (fun c_51 => absurd c_51 (by decide))
    refine R_iload_n1 (pc := 225) dL_acts_225 ?_
    refine R_bipush (pc := 226) (v := 7) dL_acts_226 (by decide) ?_
    refine R_ishr (pc := 228) dL_acts_228 ?_
    refine R_iconst (pc := 229) (v := 4) dL_acts_229 (by decide) ?_
    refine R_irem (pc := 230) dL_acts_230 (by decide) ?_
    rw [hk4, hkd]
    refine R_iconst (pc := 231) (v := 2) dL_acts_231 (by decide) ?_
    refine R_icmp_ne (pc := 232) 359 dL_acts_232 (by decide) (fun c_232 => ?_) (fun c_232 => absurd c_232 (by decide))
    refine R_aload_n0 (pc := 359) dL_acts_359 ?_
    refine R_aload_n0 (pc := 360) dL_acts_360 ?_
    refine R_iload_n3 (pc := 361) dL_acts_361 ?_
    refine R_iconst (pc := 362) (v := 0) dL_acts_362 (by decide) ?_
    refine R_callV2 (pc := 363) (T := TX9) cal_X9_ship kw440 kw441 kw442 dL_acts_363 (c_X9_ship hC) (by decide) (Nat.le_of_ble_eq_true rfl) (ci := 7) rfl hC.self ?_
    rintro _ _ ⟨rfl, hC, -⟩
    rw [h.sh0 hi, ec]
    refine R_iconst (pc := 366) (v := 2) dL_acts_366 (by decide) ?_
    refine R_callV2 (pc := 367) (T := TX9) cal_X9_captain kw474 kw475 kw476 dL_acts_367 (c_X9_captain hC) (by decide) (Nat.le_of_ble_eq_true rfl) (ci := 7) rfl hC.self ?_
    rintro _ _ ⟨rfl, hC, -⟩
    rw [cpv hcc, et]
    refine R_istore6 (pc := 370) dL_acts_370 rfl (by decide) ?_
    refine R_iload_n1 (pc := 372) dL_acts_372 ?_
    refine R_bipush (pc := 373) (v := 10) dL_acts_373 (by decide) ?_
    refine R_ishr (pc := 375) dL_acts_375 ?_
    refine R_iconst (pc := 376) (v := 3) dL_acts_376 (by decide) ?_
    refine R_irem (pc := 377) dL_acts_377 (by decide) ?_
    rw [h103]
    refine R_istore7 (pc := 378) dL_acts_378 rfl (by decide) ?_
    refine R_aload_n0 (pc := 380) dL_acts_380 ?_
    refine R_iload_n3 (pc := 381) dL_acts_381 ?_
    refine R_iload7 (pc := 382) dL_acts_382 ?_
    refine R_callV2 (pc := 384) (T := TX9) cal_X9_repair kw664 kw665 kw666 dL_acts_384 (c_X9_repair hC hz) (by decide) (Nat.le_of_ble_eq_true rfl) (ci := 7) rfl hC.self ?_
    rintro _ _ ⟨rfl, hC, -⟩
    rw [k1, k2] at hC
    rw [k1]
    obtain ⟨C1, hC1, e1⟩ := act_out C (nI q) (H, C.1.2)
    rw [← hC1] at hC
    have h1 : Inv sn T C1.1.1 := by rw [e1]; exact hI
    have e12 : C1.1.2 = C.1.2 := by rw [e1]
    have eH : C1.1.1 = H := by rw [e1]
    have m1 : C1.1.1.1 1 = 1 := by rw [eH]; exact mH
    have z1 : sBz C1.1 := bz_of hz (Or.inr m1) e12
    have b1 : shF C1.1.1 i 1 = nI cc := by rw [eH]; exact f1
    have bt : cF C1.1.1 cc 2 = nI (tb - rc (c / 2 ^ 10 % 3) q) := by rw [eH]; exact ft
    have b11 : shF C1.1.1 i 11 = 4 := by rw [eH]; exact f11
    have key2 : k_mend C1.1.1 (nI i) (nI (c / 2 ^ 10 % 3)) = (-2, C1.1.1) := by rw [eH]; exact again
    have j1 := congrArg Prod.fst key2
    have j2 := congrArg Prod.snd key2
    dsimp only at j1 j2
    refine R_istore8 (pc := 387) dL_acts_387 rfl (by decide) ?_
    refine R_iload7 (pc := 389) dL_acts_389 ?_
    refine R_if_ne (pc := 391) 399 dL_acts_391 (by decide) (fun c_391 => ?_) (fun c_391 => ?_)
    · skip
      refine R_iload7 (pc := 399) dL_acts_399 ?_
      refine R_iconst (pc := 401) (v := 1) dL_acts_401 (by decide) ?_
      refine R_iadd (pc := 402) dL_acts_402 ?_
      refine R_istore9 (pc := 403) dL_acts_403 rfl (by decide) ?_
      refine R_iload8 (pc := 405) dL_acts_405 ?_
      refine R_bipush (pc := 407) (v := (-2)) dL_acts_407 (by decide) ?_
      refine R_icmp_eq (pc := 409) 459 dL_acts_409 (by decide) (fun c_409 => absurd c_409 hq2) (fun c_409 => ?_)
      refine R_iload8 (pc := 412) dL_acts_412 ?_
      refine R_if_le (pc := 414) 463 dL_acts_414 (by decide) (fun c_414 => absurd c_414 (nI_nle hq (by omega))) (fun c_414 => ?_)
      refine R_aload_n0 (pc := 417) dL_acts_417 ?_
      refine R_aload_n0 (pc := 418) dL_acts_418 ?_
      refine R_iload_n3 (pc := 419) dL_acts_419 ?_
      refine R_iconst (pc := 420) (v := 0) dL_acts_420 (by decide) ?_
      refine R_callV2 (pc := 421) (T := TX9) cal_X9_ship kw440 kw441 kw442 dL_acts_421 (c_X9_ship hC) (by decide) (Nat.le_of_ble_eq_true rfl) (ci := 7) rfl hC.self ?_
      rintro _ _ ⟨rfl, hC, -⟩
      rw [h1.sh0 hi, b1]
      refine R_iconst (pc := 424) (v := 2) dL_acts_424 (by decide) ?_
      refine R_callV2 (pc := 425) (T := TX9) cal_X9_captain kw474 kw475 kw476 dL_acts_425 (c_X9_captain hC) (by decide) (Nat.le_of_ble_eq_true rfl) (ci := 7) rfl hC.self ?_
      rintro _ _ ⟨rfl, hC, -⟩
      rw [cpv hcc, bt]
      refine R_iload6 (pc := 428) dL_acts_428 ?_
      refine R_iload9 (pc := 430) dL_acts_430 ?_
      refine R_isub (pc := 432) dL_acts_432 ?_
      refine R_icmp_ne (pc := 433) 463 dL_acts_433 (by decide) (fun c_433 => absurd (by first | exact hcT c_391 | exact hcF c_391) c_433) (fun c_433 => ?_)
      refine R_aload_n0 (pc := 436) dL_acts_436 ?_
      refine R_iload_n3 (pc := 437) dL_acts_437 ?_
      refine R_iload7 (pc := 438) dL_acts_438 ?_
      refine R_callV2 (pc := 440) (T := TX9) cal_X9_repair kw664 kw665 kw666 dL_acts_440 (c_X9_repair hC z1) (by decide) (Nat.le_of_ble_eq_true rfl) (ci := 7) rfl hC.self ?_
      rintro _ _ ⟨rfl, hC, -⟩
      rw [j1, j2, cact_m C1 (by decide)] at hC
      rw [j1]
      refine R_bipush (pc := 443) (v := (-2)) dL_acts_443 (by decide) ?_
      refine R_icmp_ne (pc := 445) 463 dL_acts_445 (by decide) (fun c_445 => absurd rfl c_445) (fun c_445 => ?_)
      refine R_aload_n0 (pc := 448) dL_acts_448 ?_
      refine R_iload_n3 (pc := 449) dL_acts_449 ?_
      refine R_bipush (pc := 450) (v := 10) dL_acts_450 (by decide) ?_
      refine R_callV2 (pc := 452) (T := TX9) cal_X9_ship kw440 kw441 kw442 dL_acts_452 (c_X9_ship hC) (by decide) (Nat.le_of_ble_eq_true rfl) (ci := 7) rfl hC.self ?_
      rintro _ _ ⟨rfl, hC, -⟩
      rw [h1.sh10 hi, b11]
      refine R_iconst (pc := 455) (v := 4) dL_acts_455 (by decide) ?_
      refine R_icmp_ne (pc := 456) 463 dL_acts_456 (by decide) (fun c_456 => absurd rfl c_456) (fun c_456 => ?_)
      refine R_iconst (pc := 459) (v := 1) dL_acts_459 (by decide) ?_
      refine R_goto (pc := 460) 464 dL_acts_460 (by decide) ?_
      refine R_iret (pc := 464) rfl rfl dL_acts_464 ?_
      exact ⟨rfl, C1, hC, h1, m1, e12⟩
    · skip
      refine R_iload8 (pc := 394) dL_acts_394 ?_
      refine R_goto (pc := 396) 403 dL_acts_396 (by decide) ?_
      refine R_istore9 (pc := 403) dL_acts_403 rfl (by decide) ?_
      refine R_iload8 (pc := 405) dL_acts_405 ?_
      refine R_bipush (pc := 407) (v := (-2)) dL_acts_407 (by decide) ?_
      refine R_icmp_eq (pc := 409) 459 dL_acts_409 (by decide) (fun c_409 => absurd c_409 hq2) (fun c_409 => ?_)
      refine R_iload8 (pc := 412) dL_acts_412 ?_
      refine R_if_le (pc := 414) 463 dL_acts_414 (by decide) (fun c_414 => absurd c_414 (nI_nle hq (by omega))) (fun c_414 => ?_)
      refine R_aload_n0 (pc := 417) dL_acts_417 ?_
      refine R_aload_n0 (pc := 418) dL_acts_418 ?_
      refine R_iload_n3 (pc := 419) dL_acts_419 ?_
      refine R_iconst (pc := 420) (v := 0) dL_acts_420 (by decide) ?_
      refine R_callV2 (pc := 421) (T := TX9) cal_X9_ship kw440 kw441 kw442 dL_acts_421 (c_X9_ship hC) (by decide) (Nat.le_of_ble_eq_true rfl) (ci := 7) rfl hC.self ?_
      rintro _ _ ⟨rfl, hC, -⟩
      rw [h1.sh0 hi, b1]
      refine R_iconst (pc := 424) (v := 2) dL_acts_424 (by decide) ?_
      refine R_callV2 (pc := 425) (T := TX9) cal_X9_captain kw474 kw475 kw476 dL_acts_425 (c_X9_captain hC) (by decide) (Nat.le_of_ble_eq_true rfl) (ci := 7) rfl hC.self ?_
      rintro _ _ ⟨rfl, hC, -⟩
      rw [cpv hcc, bt]
      refine R_iload6 (pc := 428) dL_acts_428 ?_
      refine R_iload9 (pc := 430) dL_acts_430 ?_
      refine R_isub (pc := 432) dL_acts_432 ?_
      refine R_icmp_ne (pc := 433) 463 dL_acts_433 (by decide) (fun c_433 => absurd (by first | exact hcT c_391 | exact hcF c_391) c_433) (fun c_433 => ?_)
      refine R_aload_n0 (pc := 436) dL_acts_436 ?_
      refine R_iload_n3 (pc := 437) dL_acts_437 ?_
      refine R_iload7 (pc := 438) dL_acts_438 ?_
      refine R_callV2 (pc := 440) (T := TX9) cal_X9_repair kw664 kw665 kw666 dL_acts_440 (c_X9_repair hC z1) (by decide) (Nat.le_of_ble_eq_true rfl) (ci := 7) rfl hC.self ?_
      rintro _ _ ⟨rfl, hC, -⟩
      rw [j1, j2, cact_m C1 (by decide)] at hC
      rw [j1]
      refine R_bipush (pc := 443) (v := (-2)) dL_acts_443 (by decide) ?_
      refine R_icmp_ne (pc := 445) 463 dL_acts_445 (by decide) (fun c_445 => absurd rfl c_445) (fun c_445 => ?_)
      refine R_aload_n0 (pc := 448) dL_acts_448 ?_
      refine R_iload_n3 (pc := 449) dL_acts_449 ?_
      refine R_bipush (pc := 450) (v := 10) dL_acts_450 (by decide) ?_
      refine R_callV2 (pc := 452) (T := TX9) cal_X9_ship kw440 kw441 kw442 dL_acts_452 (c_X9_ship hC) (by decide) (Nat.le_of_ble_eq_true rfl) (ci := 7) rfl hC.self ?_
      rintro _ _ ⟨rfl, hC, -⟩
      rw [h1.sh10 hi, b11]
      refine R_iconst (pc := 455) (v := 4) dL_acts_455 (by decide) ?_
      refine R_icmp_ne (pc := 456) 463 dL_acts_456 (by decide) (fun c_456 => absurd rfl c_456) (fun c_456 => ?_)
      refine R_iconst (pc := 459) (v := 1) dL_acts_459 (by decide) ?_
      refine R_goto (pc := 460) 464 dL_acts_460 (by decide) ?_
      refine R_iret (pc := 464) rfl rfl dL_acts_464 ?_
      exact ⟨rfl, C1, hC, h1, m1, e12⟩

set_option maxHeartbeats 4000000 in
set_option maxRecDepth 100000 in
theorem c_L_acts {hh : AH} (h : Inv sn T C.1.1) (hz : sBz C.1) (hm : C.1.1.1 1 = 1) (hsn : 0 < sn) {c : Nat} (hc : c < 2 ^ 31) (hC : CAt hh w C) : Spec l D cA N0 m_L_acts 8 0 0 [.ref w, .int (nI c)] hh (PA w sn T C) := by
  have hn := h.n
  have hnz : ¬ nI sn = 0 := nI_ne0 hsn (by omega)
  have hmi : nI c - nI c / nI sn * nI sn = nI (c % sn) := pk_rem hc hsn (by omega)
  have hmj : nI c >>> ((3 : Int32) &&& 31) - nI c >>> ((3 : Int32) &&& 31) / nI sn * nI sn = nI (c / 2 ^ 3 % sn) := by
    rw [pk_shrN hc _ 3 (by decide)]
    exact pk_rem (Nat.lt_of_le_of_lt (Nat.div_le_self _ _) hc) hsn (by omega)
  have hms : nI c >>> ((6 : Int32) &&& 31) - nI c >>> ((6 : Int32) &&& 31) / 2 * 2 = nI (c / 2 ^ 6 % 2) := by
    rw [pk_shrN hc _ 6 (by decide)]
    exact pk_rem (d := 2) (Nat.lt_of_le_of_lt (Nat.div_le_self _ _) hc) (by decide) (by decide)
  refine Spec.of (L := [some (.ref w), some (.int (nI c)), none, none, none, none, none, none, none, none]) (by decide) rfl (Nat.le_of_ble_eq_true rfl) ?_
  refine R_aload_n0 (pc := 0) dL_acts_0 ?_
  refine R_iconst (pc := 1) (v := 5) dL_acts_1 (by decide) ?_
  refine R_callV1 (pc := 2) (T := TX9) cal_X9_count kw339 kw340 kw341 dL_acts_2 (c_X9_count hC) (by decide) (Nat.le_of_ble_eq_true rfl) (ci := 7) rfl hC.self ?_
  rintro _ _ ⟨rfl, hC, -⟩
  rw [h.c5]
  refine R_istore_n2 (pc := 5) dL_acts_5 rfl (by decide) ?_
  refine R_iload_n1 (pc := 6) dL_acts_6 ?_
  refine R_iload_n2 (pc := 7) dL_acts_7 ?_
  refine R_irem (pc := 8) dL_acts_8 hnz ?_
  rw [hmi]
  refine R_istore_n3 (pc := 9) dL_acts_9 rfl (by decide) ?_
  refine R_iload_n1 (pc := 10) dL_acts_10 ?_
  refine R_iconst (pc := 11) (v := 3) dL_acts_11 (by decide) ?_
  refine R_ishr (pc := 12) dL_acts_12 ?_
  refine R_iload_n2 (pc := 13) dL_acts_13 ?_
  refine R_irem (pc := 14) dL_acts_14 hnz ?_
  rw [hmj]
  refine R_istore4 (pc := 15) dL_acts_15 rfl (by decide) ?_
  refine R_iload_n1 (pc := 17) dL_acts_17 ?_
  refine R_bipush (pc := 18) (v := 6) dL_acts_18 (by decide) ?_
  refine R_ishr (pc := 20) dL_acts_20 ?_
  refine R_iconst (pc := 21) (v := 2) dL_acts_21 (by decide) ?_
  refine R_irem (pc := 22) dL_acts_22 (by decide) ?_
  rw [hms]
  refine R_istore5 (pc := 23) dL_acts_23 rfl (by decide) ?_
  have hk := Nat.mod_lt (c / 2 ^ 7) (show 0 < 4 by decide)
  rcases (by omega : c / 2 ^ 7 % 4 = 0 ∨ c / 2 ^ 7 % 4 = 1 ∨ c / 2 ^ 7 % 4 = 2 ∨ c / 2 ^ 7 % 4 = 3) with q | q | q | q
  · exact LT_0 h hz hm (Nat.mod_lt _ hsn) (Nat.mod_lt _ hsn) (Nat.mod_lt _ (by decide)) hc hC q
  · exact LT_1 h hz hm (Nat.mod_lt _ hsn) (Nat.mod_lt _ hsn) (Nat.mod_lt _ (by decide)) hc hC q
  · exact LT_2 h hz hm (Nat.mod_lt _ hsn) (Nat.mod_lt _ hsn) (Nat.mod_lt _ (by decide)) hc hC q
  · exact LT_3 h hz hm (Nat.mod_lt _ hsn) (Nat.mod_lt _ hsn) (Nat.mod_lt _ (by decide)) hc hC q

end LV34
