/-! THE LAW: lays -/
def PL (w : Nat) (C : Cm) : Option Value → AH → Prop := fun r h' => r = some (.int 1) ∧ ∃ (C2 : Cm) (sn : Nat), CAt h' w C2 ∧ Inv sn 0 C2.1.1 ∧ C2.1.1.1 1 = 0 ∧ C2.1.2 = C.1.2
theorem place_no (G : Gm) : k_place G 81 1 = (-1, G) := if_neg (fun z => absurd z.1.2 (by decide))
theorem launch_no (G : Gm) (n : Nat) : k_launch G n 2 0 0 1 1 0 = (-1, G) := if_neg (fun z => absurd z.1 (by decide))
section LV36
variable {l : Launch} {D : va_G} {cA : Nat → ClassId} {N0 : Nat} {w b Ln : Nat} {xs : Nat → Int32} {sn T : Nat} {C C0 : Cm}
set_option maxHeartbeats 4000000 in
set_option maxRecDepth 100000 in
theorem LS_ships (hL : Ln ≤ 260) (hz0 : sBz C0.1) : ∀ (n k sn : Nat) (C : Cm) (hh : AH), k + n = 9 → CAt hh w C → Inv sn 0 C.1.1 → C.1.1.1 1 = 0 → C.1.2 = C0.1.2 → RunX l D cA N0 m_L_lays 7 0 0 b Ln xs (PL w C0) hh 0 0 74 [some (.ref w), some (.ref b), some (.int 1), some (.int (nI k)), none, none, none, none, none] [] := by
  intro n
  induction n with
  | zero =>
    intro k sn C hh hkn hC h hm e0
    have hke : k = 9 := by omega
    subst hke
    have hz : sBz C.1 := bz_of hz0 (Or.inl hm) e0
    have p0 := place_no C.1.1
    have p1 := congrArg Prod.fst p0
    have p2 := congrArg Prod.snd p0
    have q0 := launch_no C.1.1 sn
    have q1 := congrArg Prod.fst q0
    have q2 := congrArg Prod.snd q0
    dsimp only at p1 p2 q1 q2
    refine R_iload_n3 (pc := 74) dL_lays_74 ?_
    refine R_bipush (pc := 75) (v := 9) dL_lays_75 (by decide) ?_
    refine R_icmp_ge (pc := 77) 257 dL_lays_77 (by decide) (fun c_77 => ?_) (fun c_77 => absurd (by decide) c_77)
    refine R_iload_n2 (pc := 257) dL_lays_257 ?_
    refine R_if_eq (pc := 258) 290 dL_lays_258 (by decide) (fun c0 => False.elim (by revert c0; decide)) (fun _ => ?_)
    refine R_aload_n0 (pc := 261) dL_lays_261 ?_
    refine R_bipush (pc := 262) (v := 81) dL_lays_262 (by decide) ?_
    refine R_iconst (pc := 264) (v := 1) dL_lays_264 (by decide) ?_
    refine R_callV2 (pc := 265) (T := TX9) cal_X9_setIsland kw396 kw397 kw398 dL_lays_265 (c_X9_setIsland hC hz) (by decide) (Nat.le_of_ble_eq_true rfl) (ci := 7) rfl hC.self ?_
    rintro _ _ ⟨rfl, hC, -⟩
    rw [p1, p2, cact_m C (by decide)] at hC
    rw [p1]
    refine R_iconst (pc := 268) (v := (-1)) dL_lays_268 (by decide) ?_
    refine R_icmp_ne (pc := 269) 290 dL_lays_269 (by decide) (fun c_269 => absurd rfl c_269) (fun c_269 => ?_)
    refine R_aload_n0 (pc := 272) dL_lays_272 ?_
    refine R_iconst (pc := 273) (v := 2) dL_lays_273 (by decide) ?_
    refine R_iconst (pc := 274) (v := 0) dL_lays_274 (by decide) ?_
    refine R_iconst (pc := 275) (v := 0) dL_lays_275 (by decide) ?_
    refine R_iconst (pc := 276) (v := 1) dL_lays_276 (by decide) ?_
    refine R_iconst (pc := 277) (v := 1) dL_lays_277 (by decide) ?_
    refine R_iconst (pc := 278) (v := 0) dL_lays_278 (by decide) ?_
    refine R_callV6 (pc := 279) (T := TX9) cal_X9_addShip kw424 kw425 kw426 dL_lays_279 (c_X9_addShip hC hz h.n h.k4) (by decide) (Nat.le_of_ble_eq_true rfl) (ci := 7) rfl hC.self ?_
    rintro _ _ ⟨rfl, hC, -⟩
    rw [q1, q2, cact_m C (by decide)] at hC
    rw [q1]
    refine R_iconst (pc := 282) (v := (-1)) dL_lays_282 (by decide) ?_
    refine R_icmp_ne (pc := 283) 290 dL_lays_283 (by decide) (fun c_283 => absurd rfl c_283) (fun c_283 => ?_)
    refine R_iconst (pc := 286) (v := 1) dL_lays_286 (by decide) ?_
    refine R_goto (pc := 287) 291 dL_lays_287 (by decide) ?_
    refine R_iretX (pc := 291) rfl rfl dL_lays_291 ?_
    exact ⟨rfl, C, sn, hC, h, hm, e0⟩
  | succ n ih =>
    intro k sn C hh hkn hC h hm e0
    have hlt : k < 9 := by omega
    have hn := h.n
    have hz : sBz C.1 := bz_of hz0 (Or.inl hm) e0
    have h9k : (9 : Int32) + nI k = nI (9 + k) := nI_add 9 k
    refine R_iload_n3 (pc := 74) dL_lays_74 ?_
    refine R_bipush (pc := 75) (v := 9) dL_lays_75 (by decide) ?_
    refine R_icmp_ge (pc := 77) 257 dL_lays_77 (by decide) (fun c_77 => absurd c_77 (nI_ge hlt (by decide))) (fun c_77 => ?_)
    refine R_iload_n2 (pc := 80) dL_lays_80 ?_
    refine R_if_eq (pc := 81) 257 dL_lays_81 (by decide) (fun c0 => False.elim (by revert c0; decide)) (fun _ => ?_)
    refine R_aload_n1 (pc := 84) dL_lays_84 ?_
    refine R_bipush (pc := 85) (v := 9) dL_lays_85 (by decide) ?_
    refine R_iload_n3 (pc := 87) dL_lays_87 ?_
    refine R_iadd (pc := 88) dL_lays_88 ?_
    rw [h9k]
    refine R_callSX2 (pc := 89) (fun _ q => q) cal_L_cell kw388 kw389 dL_lays_89 (c_L_cell hL (by omega)) (by decide) (Nat.le_of_ble_eq_true rfl) ?_
    rintro _ _ ⟨⟨c, hc, rfl⟩, rfl⟩
    have hm45 : nI c - nI c / 45 * 45 = nI (c % 45) := pk_rem (d := 45) hc (by decide) (by decide)
    have h18 : (18 : Int32) + nI (c % 45) = nI (18 + c % 45) := nI_add 18 _
    have hx : 18 + c % 45 < 81 := by omega
    have h66 : nI c >>> ((6 : Int32) &&& 31) - nI c >>> ((6 : Int32) &&& 31) / 6 * 6 = nI (c / 2 ^ 6 % 6) := by
      rw [pk_shrN hc _ 6 (by decide)]
      exact pk_rem (d := 6) (Nat.lt_of_le_of_lt (Nat.div_le_self _ _) hc) (by decide) (by decide)
    have h98 : (1 : Int32) + (nI c >>> ((9 : Int32) &&& 31) - nI c >>> ((9 : Int32) &&& 31) / 8 * 8) = nI (1 + c / 2 ^ 9 % 8) := by
      rw [pk_shrN hc _ 9 (by decide), ← nI_add]
      exact congrArg (fun z => (1 : Int32) + z) (pk_rem (d := 8) (Nat.lt_of_le_of_lt (Nat.div_le_self _ _) hc) (by decide) (by decide))
    have h1240 : (1 : Int32) + (nI c >>> ((12 : Int32) &&& 31) - nI c >>> ((12 : Int32) &&& 31) / 40 * 40) = nI (1 + c / 2 ^ 12 % 40) := by
      rw [pk_shrN hc _ 12 (by decide), ← nI_add]
      exact congrArg (fun z => (1 : Int32) + z) (pk_rem (d := 40) (Nat.lt_of_le_of_lt (Nat.div_le_self _ _) hc) (by decide) (by decide))
    have h1810 : nI c >>> ((18 : Int32) &&& 31) - nI c >>> ((18 : Int32) &&& 31) / 10 * 10 = nI (c / 2 ^ 18 % 10) := by
      rw [pk_shrN hc _ 18 (by decide)]
      exact pk_rem (d := 10) (Nat.lt_of_le_of_lt (Nat.div_le_self _ _) hc) (by decide) (by decide)
    have hk2 : nI k - nI k / 2 * 2 = nI (k % 2) := pk_rem (d := 2) (by omega) (by decide) (by decide)
    have hla := h.launch (c := k % 2) (x := 18 + c % 45) (d := c / 2 ^ 6 % 6) (s := 1 + c / 2 ^ 9 % 8) (r := 1 + c / 2 ^ 12 % 40) (g := c / 2 ^ 18 % 10) (Nat.mod_lt _ (by decide)) hx (Nat.mod_lt _ (by decide)) (by omega) (by omega) (by omega)
    have hfc := h.free_c hx
    rcases hla with ⟨hf, key⟩ | ⟨hf, h8, key⟩ | ⟨hf, h8, H, key, hI, g1, f2, f4⟩
    · skip
      refine R_istore4 (pc := 92) dL_lays_92 rfl (by decide) ?_
      refine R_bipush (pc := 94) (v := 18) dL_lays_94 (by decide) ?_
      refine R_iload4 (pc := 96) dL_lays_96 ?_
      refine R_bipush (pc := 98) (v := 45) dL_lays_98 (by decide) ?_
      refine R_irem (pc := 100) dL_lays_100 (by decide) ?_
      rw [hm45]
      refine R_iadd (pc := 101) dL_lays_101 ?_
      rw [h18]
      refine R_istore5 (pc := 102) dL_lays_102 rfl (by decide) ?_
      refine R_aload_n0 (pc := 104) dL_lays_104 ?_
      refine R_iconst (pc := 105) (v := 5) dL_lays_105 (by decide) ?_
      refine R_callV1 (pc := 106) (T := TX9) cal_X9_count kw339 kw340 kw341 dL_lays_106 (c_X9_count hC) (by decide) (Nat.le_of_ble_eq_true rfl) (ci := 7) rfl hC.self ?_
      rintro _ _ ⟨rfl, hC, -⟩
      rw [h.c5]
      refine R_istore6 (pc := 109) dL_lays_109 rfl (by decide) ?_
      refine R_aload_n0 (pc := 111) dL_lays_111 ?_
      refine R_iload5 (pc := 112) dL_lays_112 ?_
      refine R_callV1 (pc := 114) (T := TX9) cal_X9_on kw411 kw412 kw413 dL_lays_114 (c_X9_on hC) (by decide) (Nat.le_of_ble_eq_true rfl) (ci := 7) rfl hC.self ?_
      rintro _ _ ⟨rfl, hC, -⟩
      rw [p_on_c C hx]
      refine R_bipush (pc := 117) (v := (-9)) dL_lays_117 (by decide) ?_
      refine R_icmp_ne (pc := 119) 126 dL_lays_119 (by decide) (fun c_119 => ?_) (fun c_119 => absurd c_119 (fun z => hf (hfc.mp z)))
      refine R_iconst (pc := 126) (v := 0) dL_lays_126 (by decide) ?_
      refine R_istore7 (pc := 127) dL_lays_127 rfl (by decide) ?_
      refine R_aload_n0 (pc := 129) dL_lays_129 ?_
      refine R_iload_n3 (pc := 130) dL_lays_130 ?_
      refine R_iconst (pc := 131) (v := 2) dL_lays_131 (by decide) ?_
      refine R_irem (pc := 132) dL_lays_132 (by decide) ?_
      rw [hk2]
      refine R_iload5 (pc := 133) dL_lays_133 ?_
      refine R_iload4 (pc := 135) dL_lays_135 ?_
      refine R_bipush (pc := 137) (v := 6) dL_lays_137 (by decide) ?_
      refine R_ishr (pc := 139) dL_lays_139 ?_
      refine R_bipush (pc := 140) (v := 6) dL_lays_140 (by decide) ?_
      refine R_irem (pc := 142) dL_lays_142 (by decide) ?_
      rw [h66]
      refine R_iconst (pc := 143) (v := 1) dL_lays_143 (by decide) ?_
      refine R_iload4 (pc := 144) dL_lays_144 ?_
      refine R_bipush (pc := 146) (v := 9) dL_lays_146 (by decide) ?_
      refine R_ishr (pc := 148) dL_lays_148 ?_
      refine R_bipush (pc := 149) (v := 8) dL_lays_149 (by decide) ?_
      refine R_irem (pc := 151) dL_lays_151 (by decide) ?_
      refine R_iadd (pc := 152) dL_lays_152 ?_
      rw [h98]
      refine R_iconst (pc := 153) (v := 1) dL_lays_153 (by decide) ?_
      refine R_iload4 (pc := 154) dL_lays_154 ?_
      refine R_bipush (pc := 156) (v := 12) dL_lays_156 (by decide) ?_
      refine R_ishr (pc := 158) dL_lays_158 ?_
      refine R_bipush (pc := 159) (v := 40) dL_lays_159 (by decide) ?_
      refine R_irem (pc := 161) dL_lays_161 (by decide) ?_
      refine R_iadd (pc := 162) dL_lays_162 ?_
      rw [h1240]
      refine R_iload4 (pc := 163) dL_lays_163 ?_
      refine R_bipush (pc := 165) (v := 18) dL_lays_165 (by decide) ?_
      refine R_ishr (pc := 167) dL_lays_167 ?_
      refine R_bipush (pc := 168) (v := 10) dL_lays_168 (by decide) ?_
      refine R_irem (pc := 170) dL_lays_170 (by decide) ?_
      rw [h1810]
      refine R_callV6 (pc := 171) (T := TX9) cal_X9_addShip kw424 kw425 kw426 dL_lays_171 (c_X9_addShip hC hz h.n h.k4) (by decide) (Nat.le_of_ble_eq_true rfl) (ci := 7) rfl hC.self ?_
      have k1 := congrArg Prod.fst key
      have k2 := congrArg Prod.snd key
      dsimp only at k1 k2
      rintro _ _ ⟨rfl, hC, -⟩
      rw [k1, k2, cact_m C (by decide)] at hC
      rw [k1]
      refine R_istore8 (pc := 174) dL_lays_174 rfl (by decide) ?_
      refine R_iload8 (pc := 176) dL_lays_176 ?_
      refine R_iload7 (pc := 178) dL_lays_178 ?_
      refine R_if_ne (pc := 180) 188 dL_lays_180 (by decide) (fun c0 => False.elim (by revert c0; decide)) (fun _ => ?_)
      refine R_bipush (pc := 183) (v := (-2)) dL_lays_183 (by decide) ?_
      refine R_goto (pc := 185) 202 dL_lays_185 (by decide) ?_
      refine R_icmp_ne (pc := 202) 249 dL_lays_202 (by decide) (fun c_202 => absurd rfl c_202) (fun c_202 => ?_)
      refine R_iload8 (pc := 205) dL_lays_205 ?_
      refine R_if_lt (pc := 207) 245 dL_lays_207 (by decide) (fun c_207 => ?_) (fun c_207 => absurd (by decide) c_207)
      refine R_iconst (pc := 245) (v := 1) dL_lays_245 (by decide) ?_
      refine R_goto (pc := 246) 250 dL_lays_246 (by decide) ?_
      refine R_istore_n2 (pc := 250) dL_lays_250 rfl (by decide) ?_
      refine R_iinc3 (pc := 251) dL_lays_251 rfl (by decide) ?_
      refine R_goto (pc := 254) 74 dL_lays_254 (by decide) ?_
      rw [nI_s]
      exact R_weak (L2 := [some (.ref w), some (.ref b), some (.int 1), some (.int (nI (k + 1))), none, none, none, none, none]) (by repeat (first | exact trivial | refine ⟨rfl, ?_⟩ | refine ⟨trivial, ?_⟩)) (ih (k + 1) sn C _ (by omega) hC h hm e0)
    · skip
      refine R_istore4 (pc := 92) dL_lays_92 rfl (by decide) ?_
      refine R_bipush (pc := 94) (v := 18) dL_lays_94 (by decide) ?_
      refine R_iload4 (pc := 96) dL_lays_96 ?_
      refine R_bipush (pc := 98) (v := 45) dL_lays_98 (by decide) ?_
      refine R_irem (pc := 100) dL_lays_100 (by decide) ?_
      rw [hm45]
      refine R_iadd (pc := 101) dL_lays_101 ?_
      rw [h18]
      refine R_istore5 (pc := 102) dL_lays_102 rfl (by decide) ?_
      refine R_aload_n0 (pc := 104) dL_lays_104 ?_
      refine R_iconst (pc := 105) (v := 5) dL_lays_105 (by decide) ?_
      refine R_callV1 (pc := 106) (T := TX9) cal_X9_count kw339 kw340 kw341 dL_lays_106 (c_X9_count hC) (by decide) (Nat.le_of_ble_eq_true rfl) (ci := 7) rfl hC.self ?_
      rintro _ _ ⟨rfl, hC, -⟩
      rw [h.c5]
      refine R_istore6 (pc := 109) dL_lays_109 rfl (by decide) ?_
      refine R_aload_n0 (pc := 111) dL_lays_111 ?_
      refine R_iload5 (pc := 112) dL_lays_112 ?_
      refine R_callV1 (pc := 114) (T := TX9) cal_X9_on kw411 kw412 kw413 dL_lays_114 (c_X9_on hC) (by decide) (Nat.le_of_ble_eq_true rfl) (ci := 7) rfl hC.self ?_
      rintro _ _ ⟨rfl, hC, -⟩
      rw [p_on_c C hx]
      refine R_bipush (pc := 117) (v := (-9)) dL_lays_117 (by decide) ?_
      refine R_icmp_ne (pc := 119) 126 dL_lays_119 (by decide) (fun c_119 => absurd (hfc.mpr hf) c_119) (fun c_119 => ?_)
      refine R_iconst (pc := 122) (v := 1) dL_lays_122 (by decide) ?_
      refine R_goto (pc := 123) 127 dL_lays_123 (by decide) ?_
      refine R_istore7 (pc := 127) dL_lays_127 rfl (by decide) ?_
      refine R_aload_n0 (pc := 129) dL_lays_129 ?_
      refine R_iload_n3 (pc := 130) dL_lays_130 ?_
      refine R_iconst (pc := 131) (v := 2) dL_lays_131 (by decide) ?_
      refine R_irem (pc := 132) dL_lays_132 (by decide) ?_
      rw [hk2]
      refine R_iload5 (pc := 133) dL_lays_133 ?_
      refine R_iload4 (pc := 135) dL_lays_135 ?_
      refine R_bipush (pc := 137) (v := 6) dL_lays_137 (by decide) ?_
      refine R_ishr (pc := 139) dL_lays_139 ?_
      refine R_bipush (pc := 140) (v := 6) dL_lays_140 (by decide) ?_
      refine R_irem (pc := 142) dL_lays_142 (by decide) ?_
      rw [h66]
      refine R_iconst (pc := 143) (v := 1) dL_lays_143 (by decide) ?_
      refine R_iload4 (pc := 144) dL_lays_144 ?_
      refine R_bipush (pc := 146) (v := 9) dL_lays_146 (by decide) ?_
      refine R_ishr (pc := 148) dL_lays_148 ?_
      refine R_bipush (pc := 149) (v := 8) dL_lays_149 (by decide) ?_
      refine R_irem (pc := 151) dL_lays_151 (by decide) ?_
      refine R_iadd (pc := 152) dL_lays_152 ?_
      rw [h98]
      refine R_iconst (pc := 153) (v := 1) dL_lays_153 (by decide) ?_
      refine R_iload4 (pc := 154) dL_lays_154 ?_
      refine R_bipush (pc := 156) (v := 12) dL_lays_156 (by decide) ?_
      refine R_ishr (pc := 158) dL_lays_158 ?_
      refine R_bipush (pc := 159) (v := 40) dL_lays_159 (by decide) ?_
      refine R_irem (pc := 161) dL_lays_161 (by decide) ?_
      refine R_iadd (pc := 162) dL_lays_162 ?_
      rw [h1240]
      refine R_iload4 (pc := 163) dL_lays_163 ?_
      refine R_bipush (pc := 165) (v := 18) dL_lays_165 (by decide) ?_
      refine R_ishr (pc := 167) dL_lays_167 ?_
      refine R_bipush (pc := 168) (v := 10) dL_lays_168 (by decide) ?_
      refine R_irem (pc := 170) dL_lays_170 (by decide) ?_
      rw [h1810]
      refine R_callV6 (pc := 171) (T := TX9) cal_X9_addShip kw424 kw425 kw426 dL_lays_171 (c_X9_addShip hC hz h.n h.k4) (by decide) (Nat.le_of_ble_eq_true rfl) (ci := 7) rfl hC.self ?_
      have k1 := congrArg Prod.fst key
      have k2 := congrArg Prod.snd key
      dsimp only at k1 k2
      rintro _ _ ⟨rfl, hC, -⟩
      rw [k1, k2, cact_m C (by decide)] at hC
      rw [k1]
      refine R_istore8 (pc := 174) dL_lays_174 rfl (by decide) ?_
      refine R_iload8 (pc := 176) dL_lays_176 ?_
      refine R_iload7 (pc := 178) dL_lays_178 ?_
      refine R_if_ne (pc := 180) 188 dL_lays_180 (by decide) (fun _ => ?_) (fun c0 => False.elim (by revert c0; decide))
      refine R_iload6 (pc := 188) dL_lays_188 ?_
      refine R_bipush (pc := 190) (v := 8) dL_lays_190 (by decide) ?_
      refine R_icmp_ne (pc := 192) 200 dL_lays_192 (by decide) (fun c_192 => absurd (congrArg nI h8) c_192) (fun c_192 => ?_)
      refine R_bipush (pc := 195) (v := (-3)) dL_lays_195 (by decide) ?_
      refine R_goto (pc := 197) 202 dL_lays_197 (by decide) ?_
      refine R_icmp_ne (pc := 202) 249 dL_lays_202 (by decide) (fun c_202 => absurd rfl c_202) (fun c_202 => ?_)
      refine R_iload8 (pc := 205) dL_lays_205 ?_
      refine R_if_lt (pc := 207) 245 dL_lays_207 (by decide) (fun c_207 => ?_) (fun c_207 => absurd (by decide) c_207)
      refine R_iconst (pc := 245) (v := 1) dL_lays_245 (by decide) ?_
      refine R_goto (pc := 246) 250 dL_lays_246 (by decide) ?_
      refine R_istore_n2 (pc := 250) dL_lays_250 rfl (by decide) ?_
      refine R_iinc3 (pc := 251) dL_lays_251 rfl (by decide) ?_
      refine R_goto (pc := 254) 74 dL_lays_254 (by decide) ?_
      rw [nI_s]
      exact R_weak (L2 := [some (.ref w), some (.ref b), some (.int 1), some (.int (nI (k + 1))), none, none, none, none, none]) (by repeat (first | exact trivial | refine ⟨rfl, ?_⟩ | refine ⟨trivial, ?_⟩)) (ih (k + 1) sn C _ (by omega) hC h hm e0)
    · skip
      have hn8 : ¬ nI sn = 8 := fun z => by have := (nI_eq (b := 8) (by omega) (by decide)).mp z; omega
      refine R_istore4 (pc := 92) dL_lays_92 rfl (by decide) ?_
      refine R_bipush (pc := 94) (v := 18) dL_lays_94 (by decide) ?_
      refine R_iload4 (pc := 96) dL_lays_96 ?_
      refine R_bipush (pc := 98) (v := 45) dL_lays_98 (by decide) ?_
      refine R_irem (pc := 100) dL_lays_100 (by decide) ?_
      rw [hm45]
      refine R_iadd (pc := 101) dL_lays_101 ?_
      rw [h18]
      refine R_istore5 (pc := 102) dL_lays_102 rfl (by decide) ?_
      refine R_aload_n0 (pc := 104) dL_lays_104 ?_
      refine R_iconst (pc := 105) (v := 5) dL_lays_105 (by decide) ?_
      refine R_callV1 (pc := 106) (T := TX9) cal_X9_count kw339 kw340 kw341 dL_lays_106 (c_X9_count hC) (by decide) (Nat.le_of_ble_eq_true rfl) (ci := 7) rfl hC.self ?_
      rintro _ _ ⟨rfl, hC, -⟩
      rw [h.c5]
      refine R_istore6 (pc := 109) dL_lays_109 rfl (by decide) ?_
      refine R_aload_n0 (pc := 111) dL_lays_111 ?_
      refine R_iload5 (pc := 112) dL_lays_112 ?_
      refine R_callV1 (pc := 114) (T := TX9) cal_X9_on kw411 kw412 kw413 dL_lays_114 (c_X9_on hC) (by decide) (Nat.le_of_ble_eq_true rfl) (ci := 7) rfl hC.self ?_
      rintro _ _ ⟨rfl, hC, -⟩
      rw [p_on_c C hx]
      refine R_bipush (pc := 117) (v := (-9)) dL_lays_117 (by decide) ?_
      refine R_icmp_ne (pc := 119) 126 dL_lays_119 (by decide) (fun c_119 => absurd (hfc.mpr hf) c_119) (fun c_119 => ?_)
      refine R_iconst (pc := 122) (v := 1) dL_lays_122 (by decide) ?_
      refine R_goto (pc := 123) 127 dL_lays_123 (by decide) ?_
      refine R_istore7 (pc := 127) dL_lays_127 rfl (by decide) ?_
      refine R_aload_n0 (pc := 129) dL_lays_129 ?_
      refine R_iload_n3 (pc := 130) dL_lays_130 ?_
      refine R_iconst (pc := 131) (v := 2) dL_lays_131 (by decide) ?_
      refine R_irem (pc := 132) dL_lays_132 (by decide) ?_
      rw [hk2]
      refine R_iload5 (pc := 133) dL_lays_133 ?_
      refine R_iload4 (pc := 135) dL_lays_135 ?_
      refine R_bipush (pc := 137) (v := 6) dL_lays_137 (by decide) ?_
      refine R_ishr (pc := 139) dL_lays_139 ?_
      refine R_bipush (pc := 140) (v := 6) dL_lays_140 (by decide) ?_
      refine R_irem (pc := 142) dL_lays_142 (by decide) ?_
      rw [h66]
      refine R_iconst (pc := 143) (v := 1) dL_lays_143 (by decide) ?_
      refine R_iload4 (pc := 144) dL_lays_144 ?_
      refine R_bipush (pc := 146) (v := 9) dL_lays_146 (by decide) ?_
      refine R_ishr (pc := 148) dL_lays_148 ?_
      refine R_bipush (pc := 149) (v := 8) dL_lays_149 (by decide) ?_
      refine R_irem (pc := 151) dL_lays_151 (by decide) ?_
      refine R_iadd (pc := 152) dL_lays_152 ?_
      rw [h98]
      refine R_iconst (pc := 153) (v := 1) dL_lays_153 (by decide) ?_
      refine R_iload4 (pc := 154) dL_lays_154 ?_
      refine R_bipush (pc := 156) (v := 12) dL_lays_156 (by decide) ?_
      refine R_ishr (pc := 158) dL_lays_158 ?_
      refine R_bipush (pc := 159) (v := 40) dL_lays_159 (by decide) ?_
      refine R_irem (pc := 161) dL_lays_161 (by decide) ?_
      refine R_iadd (pc := 162) dL_lays_162 ?_
      rw [h1240]
      refine R_iload4 (pc := 163) dL_lays_163 ?_
      refine R_bipush (pc := 165) (v := 18) dL_lays_165 (by decide) ?_
      refine R_ishr (pc := 167) dL_lays_167 ?_
      refine R_bipush (pc := 168) (v := 10) dL_lays_168 (by decide) ?_
      refine R_irem (pc := 170) dL_lays_170 (by decide) ?_
      rw [h1810]
      refine R_callV6 (pc := 171) (T := TX9) cal_X9_addShip kw424 kw425 kw426 dL_lays_171 (c_X9_addShip hC hz h.n h.k4) (by decide) (Nat.le_of_ble_eq_true rfl) (ci := 7) rfl hC.self ?_
      have k1 := congrArg Prod.fst key
      have k2 := congrArg Prod.snd key
      dsimp only at k1 k2
      rintro _ _ ⟨rfl, hC, -⟩
      rw [k1, k2] at hC
      rw [k1]
      obtain ⟨C1, hC1, e1⟩ := act_out C (nI sn) (H, C.1.2)
      rw [← hC1] at hC
      have eH : C1.1.1 = H := by rw [e1]
      have h1 : Inv (sn + 1) 0 C1.1.1 := by rw [eH]; exact hI
      have m1 : C1.1.1.1 1 = 0 := by rw [eH, g1]; exact hm
      have e12 : C1.1.2 = C0.1.2 := by rw [e1]; exact e0
      have b2 : shF C1.1.1 sn 2 = nI (18 + c % 45) := by rw [eH]; exact f2
      have b4 : shF C1.1.1 sn 4 = 20 := by rw [eH]; exact f4
      have bf : ¬ shF C1.1.1 sn 4 = 0 := by rw [b4]; decide
      have on1 : p_on C1 (nI (18 + c % 45)) = nI sn := by rw [← b2]; exact h1.onv h8 bf
      refine R_istore8 (pc := 174) dL_lays_174 rfl (by decide) ?_
      refine R_iload8 (pc := 176) dL_lays_176 ?_
      refine R_iload7 (pc := 178) dL_lays_178 ?_
      refine R_if_ne (pc := 180) 188 dL_lays_180 (by decide) (fun _ => ?_) (fun c0 => False.elim (by revert c0; decide))
      refine R_iload6 (pc := 188) dL_lays_188 ?_
      refine R_bipush (pc := 190) (v := 8) dL_lays_190 (by decide) ?_
      refine R_icmp_ne (pc := 192) 200 dL_lays_192 (by decide) (fun c_192 => ?_) (fun c_192 => absurd c_192 hn8)
      refine R_iload6 (pc := 200) dL_lays_200 ?_
      refine R_icmp_ne (pc := 202) 249 dL_lays_202 (by decide) (fun c_202 => absurd rfl c_202) (fun c_202 => ?_)
      refine R_iload8 (pc := 205) dL_lays_205 ?_
      refine R_if_lt (pc := 207) 245 dL_lays_207 (by decide) (fun c_207 => absurd c_207 (nI_pos (by omega))) (fun c_207 => ?_)
      refine R_aload_n0 (pc := 210) dL_lays_210 ?_
      refine R_iload5 (pc := 211) dL_lays_211 ?_
      refine R_callV1 (pc := 213) (T := TX9) cal_X9_on kw411 kw412 kw413 dL_lays_213 (c_X9_on hC) (by decide) (Nat.le_of_ble_eq_true rfl) (ci := 7) rfl hC.self ?_
      rintro _ _ ⟨rfl, hC, -⟩
      rw [on1]
      refine R_iload8 (pc := 216) dL_lays_216 ?_
      refine R_icmp_ne (pc := 218) 249 dL_lays_218 (by decide) (fun c_218 => absurd rfl c_218) (fun c_218 => ?_)
      refine R_aload_n0 (pc := 221) dL_lays_221 ?_
      refine R_iload8 (pc := 222) dL_lays_222 ?_
      refine R_iconst (pc := 224) (v := 1) dL_lays_224 (by decide) ?_
      refine R_callV2 (pc := 225) (T := TX9) cal_X9_ship kw440 kw441 kw442 dL_lays_225 (c_X9_ship hC) (by decide) (Nat.le_of_ble_eq_true rfl) (ci := 7) rfl hC.self ?_
      rintro _ _ ⟨rfl, hC, -⟩
      rw [h1.sh1 (Nat.lt_succ_self sn) bf, b2]
      refine R_iload5 (pc := 228) dL_lays_228 ?_
      refine R_icmp_ne (pc := 230) 249 dL_lays_230 (by decide) (fun c_230 => absurd rfl c_230) (fun c_230 => ?_)
      refine R_aload_n0 (pc := 233) dL_lays_233 ?_
      refine R_iload8 (pc := 234) dL_lays_234 ?_
      refine R_iconst (pc := 236) (v := 3) dL_lays_236 (by decide) ?_
      refine R_callV2 (pc := 237) (T := TX9) cal_X9_ship kw440 kw441 kw442 dL_lays_237 (c_X9_ship hC) (by decide) (Nat.le_of_ble_eq_true rfl) (ci := 7) rfl hC.self ?_
      rintro _ _ ⟨rfl, hC, -⟩
      rw [h1.sh3 (Nat.lt_succ_self sn), b4]
      refine R_bipush (pc := 240) (v := 20) dL_lays_240 (by decide) ?_
      refine R_icmp_ne (pc := 242) 249 dL_lays_242 (by decide) (fun c_242 => absurd rfl c_242) (fun c_242 => ?_)
      refine R_iconst (pc := 245) (v := 1) dL_lays_245 (by decide) ?_
      refine R_goto (pc := 246) 250 dL_lays_246 (by decide) ?_
      refine R_istore_n2 (pc := 250) dL_lays_250 rfl (by decide) ?_
      refine R_iinc3 (pc := 251) dL_lays_251 rfl (by decide) ?_
      refine R_goto (pc := 254) 74 dL_lays_254 (by decide) ?_
      rw [nI_s]
      exact R_weak (L2 := [some (.ref w), some (.ref b), some (.int 1), some (.int (nI (k + 1))), none, none, none, none, none]) (by repeat (first | exact trivial | refine ⟨rfl, ?_⟩ | refine ⟨trivial, ?_⟩)) (ih (k + 1) (sn + 1) C1 _ (by omega) hC h1 m1 e12)

set_option maxHeartbeats 4000000 in
set_option maxRecDepth 100000 in
theorem LS_isl (hL : Ln ≤ 260) (hz0 : sBz C0.1) : ∀ (n k : Nat) (C : Cm) (hh : AH), k + n = 8 → CAt hh w C → Inv 0 0 C.1.1 → C.1.1.1 1 = 0 → C.1.2 = C0.1.2 → RunX l D cA N0 m_L_lays 7 0 0 b Ln xs (PL w C0) hh 0 0 4 [some (.ref w), some (.ref b), some (.int 1), some (.int (nI k)), none, none, none, none, none] [] := by
  intro n
  induction n with
  | zero =>
    intro k C hh hkn hC h hm e0
    have hke : k = 8 := by omega
    subst hke
    refine R_iload_n3 (pc := 4) dL_lays_4 ?_
    refine R_bipush (pc := 5) (v := 8) dL_lays_5 (by decide) ?_
    refine R_icmp_ge (pc := 7) 72 dL_lays_7 (by decide) (fun c_7 => ?_) (fun c_7 => absurd (by decide) c_7)
    refine R_iconst (pc := 72) (v := 0) dL_lays_72 (by decide) ?_
    refine R_istore_n3 (pc := 73) dL_lays_73 rfl (by decide) ?_
    exact R_weak (L2 := [some (.ref w), some (.ref b), some (.int 1), some (.int (nI 0)), none, none, none, none, none]) (by repeat (first | exact trivial | refine ⟨rfl, ?_⟩ | refine ⟨trivial, ?_⟩)) (LS_ships hL hz0 9 0 0 C _ rfl hC h hm e0)
  | succ n ih =>
    intro k C hh hkn hC h hm e0
    have hlt : k < 8 := by omega
    have hz : sBz C.1 := bz_of hz0 (Or.inl hm) e0
    have h1k : (1 : Int32) + nI k = nI (1 + k) := nI_add 1 k
    refine R_iload_n3 (pc := 4) dL_lays_4 ?_
    refine R_bipush (pc := 5) (v := 8) dL_lays_5 (by decide) ?_
    refine R_icmp_ge (pc := 7) 72 dL_lays_7 (by decide) (fun c_7 => absurd c_7 (nI_ge hlt (by decide))) (fun c_7 => ?_)
    refine R_iload_n2 (pc := 10) dL_lays_10 ?_
    refine R_if_eq (pc := 11) 72 dL_lays_11 (by decide) (fun c0 => False.elim (by revert c0; decide)) (fun _ => ?_)
    refine R_aload_n1 (pc := 14) dL_lays_14 ?_
    refine R_iconst (pc := 15) (v := 1) dL_lays_15 (by decide) ?_
    refine R_iload_n3 (pc := 16) dL_lays_16 ?_
    refine R_iadd (pc := 17) dL_lays_17 ?_
    rw [h1k]
    refine R_callSX2 (pc := 18) (fun _ q => q) cal_L_cell kw388 kw389 dL_lays_18 (c_L_cell hL (by omega)) (by decide) (Nat.le_of_ble_eq_true rfl) ?_
    rintro _ _ ⟨⟨c, hc, rfl⟩, rfl⟩
    have hm81 : nI c - nI c / 81 * 81 = nI (c % 81) := pk_rem (d := 81) hc (by decide) (by decide)
    have he : c % 81 < 81 := Nat.mod_lt _ (by decide)
    obtain ⟨v, H, key, hI, g1, hvl, hcont⟩ := h.place he
    have k1 := congrArg Prod.fst key
    have k2 := congrArg Prod.snd key
    dsimp only at k1 k2
    refine R_istore4 (pc := 21) dL_lays_21 rfl (by decide) ?_
    refine R_aload_n0 (pc := 23) dL_lays_23 ?_
    refine R_bipush (pc := 24) (v := 7) dL_lays_24 (by decide) ?_
    refine R_callV1 (pc := 26) (T := TX9) cal_X9_count kw339 kw340 kw341 dL_lays_26 (c_X9_count hC) (by decide) (Nat.le_of_ble_eq_true rfl) (ci := 7) rfl hC.self ?_
    rintro _ _ ⟨rfl, hC, -⟩
    rw [ct7]
    refine R_istore5 (pc := 29) dL_lays_29 rfl (by decide) ?_
    refine R_aload_n0 (pc := 31) dL_lays_31 ?_
    refine R_iload4 (pc := 32) dL_lays_32 ?_
    refine R_bipush (pc := 34) (v := 81) dL_lays_34 (by decide) ?_
    refine R_irem (pc := 36) dL_lays_36 (by decide) ?_
    rw [hm81]
    refine R_iconst (pc := 37) (v := 1) dL_lays_37 (by decide) ?_
    refine R_callV2 (pc := 38) (T := TX9) cal_X9_setIsland kw396 kw397 kw398 dL_lays_38 (c_X9_setIsland hC hz) (by decide) (Nat.le_of_ble_eq_true rfl) (ci := 7) rfl hC.self ?_
    rintro _ _ ⟨rfl, hC, -⟩
    rw [k1, k2] at hC
    rw [k1]
    obtain ⟨C1, hC1, e1⟩ := act_out C v (H, C.1.2)
    rw [← hC1] at hC
    have eH : C1.1.1 = H := by rw [e1]
    have h1 : Inv 0 0 C1.1.1 := by rw [eH]; exact hI
    have m1 : C1.1.1.1 1 = 0 := by rw [eH, g1]; exact hm
    have e12 : C1.1.2 = C0.1.2 := by rw [e1]; exact e0
    refine R_iload5 (pc := 41) dL_lays_41 ?_
    refine R_icmp_lt (pc := 43) 64 dL_lays_43 (by decide) (fun c_43 => absurd c_43 hvl) (fun c_43 => ?_)
    refine R_aload_n0 (pc := 46) dL_lays_46 ?_
    refine R_iload4 (pc := 47) dL_lays_47 ?_
    refine R_bipush (pc := 49) (v := 81) dL_lays_49 (by decide) ?_
    refine R_irem (pc := 51) dL_lays_51 (by decide) ?_
    rw [hm81]
    refine R_callV1 (pc := 52) (T := TX9) cal_X9_on kw411 kw412 kw413 dL_lays_52 (c_X9_on hC) (by decide) (Nat.le_of_ble_eq_true rfl) (ci := 7) rfl hC.self ?_
    rintro _ _ ⟨rfl, hC, -⟩
    rw [p_on_c C1 he, eH, hcont]
    refine R_bipush (pc := 55) (v := 8) dL_lays_55 (by decide) ?_
    refine R_icmp_ne (pc := 57) 64 dL_lays_57 (by decide) (fun c_57 => absurd rfl c_57) (fun c_57 => ?_)
    refine R_iconst (pc := 60) (v := 1) dL_lays_60 (by decide) ?_
    refine R_goto (pc := 61) 65 dL_lays_61 (by decide) ?_
    refine R_istore_n2 (pc := 65) dL_lays_65 rfl (by decide) ?_
    refine R_iinc3 (pc := 66) dL_lays_66 rfl (by decide) ?_
    refine R_goto (pc := 69) 4 dL_lays_69 (by decide) ?_
    rw [nI_s]
    exact R_weak (L2 := [some (.ref w), some (.ref b), some (.int 1), some (.int (nI (k + 1))), none, none, none, none, none]) (by repeat (first | exact trivial | refine ⟨rfl, ?_⟩ | refine ⟨trivial, ?_⟩)) (ih (k + 1) C1 _ (by omega) hC h1 m1 e12)

set_option maxHeartbeats 4000000 in
set_option maxRecDepth 100000 in
theorem c_L_lays {hh : AH} (hL : Ln ≤ 260) (h : Inv 0 0 C.1.1) (hz : sBz C.1) (hm : C.1.1.1 1 = 0) (hC : CAt hh w C) : SpecX l D cA N0 m_L_lays 7 0 0 b Ln xs [.ref w, .ref b] hh (PL w C) := by
  refine SpecX.of (L := [some (.ref w), some (.ref b), none, none, none, none, none, none, none]) (by decide) rfl (Nat.le_of_ble_eq_true rfl) ?_
  refine R_iconst (pc := 0) (v := 1) dL_lays_0 (by decide) ?_
  refine R_istore_n2 (pc := 1) dL_lays_1 rfl (by decide) ?_
  refine R_iconst (pc := 2) (v := 0) dL_lays_2 (by decide) ?_
  refine R_istore_n3 (pc := 3) dL_lays_3 rfl (by decide) ?_
  exact LS_isl hL hz 8 0 C _ rfl hC h hm rfl

end LV36
