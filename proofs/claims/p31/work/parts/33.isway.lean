/-! THE LAW: isWay -/
theorem cact_1 (C : Cm) (v : Int32) (S : Sm) : (cact C v S).1 = S := by
  unfold cact
  split <;> rfl
theorem cact_m (C : Cm) {v : Int32} (hv : ¬ 0 ≤ v) : cact C v (C.1.1, C.1.2) = C := by
  unfold cact
  rw [if_neg hv]
theorem act_out (C : Cm) (v : Int32) (S : Sm) : ∃ C1, C1 = cact C v S ∧ C1.1 = S := ⟨_, rfl, cact_1 _ _ _⟩
theorem undo_act (C : Cm) {v : Int32} (hv : 0 ≤ v) (S : Sm) : ¬ (cundo (cact C v S)).1 < 0 ∧ (cundo (cact C v S)).2.1 = C.1 := by
  have e : cact C v S = (S, min (C.2.1 + 1) 6, (fun j => if j = 0 then C.1 else C.2.2.1 (j - 1)), C.2.2.2) := if_pos hv
  rw [e]
  have hz : ¬ min (C.2.1 + 1) 6 = 0 := by omega
  have e2 : cundo (S, min (C.2.1 + 1) 6, (fun j => if j = 0 then C.1 else C.2.2.1 (j - 1)), C.2.2.2) = (nI (min (C.2.1 + 1) 6 - 1), (C.1, min (C.2.1 + 1) 6 - 1, (fun j => if j + 1 = 0 then C.1 else C.2.2.1 (j + 1 - 1)), C.2.2.2)) := if_neg hz
  rw [e2]
  exact ⟨nI_pos (by omega), rfl⟩
def PA (w sn T : Nat) (C : Cm) : Option Value → AH → Prop := fun r h' => r = some (.int 1) ∧ ∃ C2 : Cm, CAt h' w C2 ∧ Inv sn T C2.1.1 ∧ C2.1.1.1 1 = 1 ∧ C2.1.2 = C.1.2
theorem bz_of {C C2 : Cm} (hz : sBz C.1) (m : C2.1.1.1 1 = 0 ∨ C2.1.1.1 1 = 1) (e : C2.1.2 = C.1.2) : sBz C2.1 := ⟨m, by rw [e]; exact hz.2.1, by rw [e]; exact hz.2.2⟩
section LV33
variable {l : Launch} {D : va_G} {cA : Nat → ClassId} {N0 : Nat} {w b Ln : Nat} {xs : Nat → Int32} {sn T : Nat} {C : Cm}
set_option maxHeartbeats 4000000 in
set_option maxRecDepth 100000 in
theorem LW_tail (h : Inv sn T C.1.1) (hz : sBz C.1) (hm : C.1.1.1 1 = 1) {i c : Nat} (hi : i < sn) (hc : c < 2 ^ 31) {hh : AH} {x5 : Option Value} (hC : CAt hh w C) (h5 : ∃ z, x5 = some (.int z)) : RunM l D cA N0 m_L_isWay 7 0 0 (PA w sn T C) hh 0 0 77 [some (.ref w), some (.int (nI i)), some (.int (nI c)), some (.int (nI (breach (WB C.1.1 i) 81))), some (.int (nI 81)), x5, none, none] [] := by
  have hn := h.n
  have hmod : nI c - nI c / 81 * 81 = nI (c % 81) := pk_rem hc (d := 81) (by decide) (by decide)
  have he : c % 81 < 81 := Nat.mod_lt _ (by decide)
  obtain ⟨z5, rfl⟩ := h5
  by_cases hp : wp C.1.1 i (c % 81) = 0
  · have wv : (if wp C.1.1 i (c % 81) = 0 then (-9 : Int32) else nI (wp C.1.1 i (c % 81))) = -9 := if_pos hp
    refine R_iload_n2 (pc := 77) dL_isWay_77 ?_
    refine R_bipush (pc := 78) (v := 81) dL_isWay_78 (by decide) ?_
    refine R_irem (pc := 80) dL_isWay_80 (by decide) ?_
    rw [hmod]
    refine R_istore4 (pc := 81) dL_isWay_81 rfl (by decide) ?_
    refine R_aload_n0 (pc := 83) dL_isWay_83 ?_
    refine R_iload_n1 (pc := 84) dL_isWay_84 ?_
    refine R_iload4 (pc := 85) dL_isWay_85 ?_
    refine R_iconst (pc := 87) (v := 0) dL_isWay_87 (by decide) ?_
    refine R_callV3 (pc := 88) (T := TX9) cal_X9_way kw586 kw587 kw588 dL_isWay_88 (c_X9_way hC h.nw h.hd) (by decide) (Nat.le_of_ble_eq_true rfl) (ci := 7) rfl hC.self ?_
    rintro _ _ ⟨⟨Q, rfl⟩, hC, -⟩
    rw [h.way_0 Q hi he, wv]
    refine R_istore5 (pc := 91) dL_isWay_91 rfl (by decide) ?_
    refine R_iload_n3 (pc := 93) dL_isWay_93 ?_
    refine R_aload_n0 (pc := 94) dL_isWay_94 ?_
    refine R_iload_n1 (pc := 95) dL_isWay_95 ?_
    refine R_callV1 (pc := 96) (T := TX9) cal_X9_reach kw520 kw521 kw522 dL_isWay_96 (c_X9_reach hC h.nw h.hd) (by decide) (Nat.le_of_ble_eq_true rfl) (ci := 7) rfl hC.self ?_
    rintro _ _ ⟨⟨Q, rfl⟩, hC, -⟩
    rw [h.reach_v Q hi]
    refine R_icmp_ne (pc := 99) 106 dL_isWay_99 (by decide) (fun c_99 => absurd rfl c_99) (fun c_99 => ?_)
    refine R_iconst (pc := 102) (v := 1) dL_isWay_102 (by decide) ?_
    refine R_goto (pc := 103) 107 dL_isWay_103 (by decide) ?_
    refine R_istore6 (pc := 107) dL_isWay_107 rfl (by decide) ?_
    refine R_iload6 (pc := 109) dL_isWay_109 ?_
    refine R_if_eq (pc := 111) 140 dL_isWay_111 (by decide) (fun c0 => False.elim (by revert c0; decide)) (fun _ => ?_)
    refine R_iload5 (pc := 114) dL_isWay_114 ?_
    refine R_if_lt (pc := 116) 140 dL_isWay_116 (by decide) (fun c_116 => ?_) (fun c_116 => absurd (by decide) c_116)
    refine R_iload6 (pc := 140) dL_isWay_140 ?_
    refine R_if_eq (pc := 142) 161 dL_isWay_142 (by decide) (fun c0 => False.elim (by revert c0; decide)) (fun _ => ?_)
    refine R_iload5 (pc := 145) dL_isWay_145 ?_
    refine R_if_gt (pc := 147) 157 dL_isWay_147 (by decide) (fun c_147 => absurd c_147 (by decide)) (fun c_147 => ?_)
    refine R_iload5 (pc := 150) dL_isWay_150 ?_
    refine R_bipush (pc := 152) (v := (-9)) dL_isWay_152 (by decide) ?_
    refine R_icmp_ne (pc := 154) 161 dL_isWay_154 (by decide) (fun c_154 => absurd rfl c_154) (fun c_154 => ?_)
    refine R_iconst (pc := 157) (v := 1) dL_isWay_157 (by decide) ?_
    refine R_goto (pc := 158) 162 dL_isWay_158 (by decide) ?_
    refine R_iret (pc := 162) rfl rfl dL_isWay_162 ?_
    exact ⟨rfl, C, hC, h, hm, rfl⟩
  · have wv : (if wp C.1.1 i (c % 81) = 0 then (-9 : Int32) else nI (wp C.1.1 i (c % 81))) = nI (wp C.1.1 i (c % 81)) := if_neg hp
    obtain ⟨m, hmm, em, w1, w2, w3, w4, w5, w6, w7⟩ := h.wpf (u := i) (by omega) he hp
    refine R_iload_n2 (pc := 77) dL_isWay_77 ?_
    refine R_bipush (pc := 78) (v := 81) dL_isWay_78 (by decide) ?_
    refine R_irem (pc := 80) dL_isWay_80 (by decide) ?_
    rw [hmod]
    refine R_istore4 (pc := 81) dL_isWay_81 rfl (by decide) ?_
    refine R_aload_n0 (pc := 83) dL_isWay_83 ?_
    refine R_iload_n1 (pc := 84) dL_isWay_84 ?_
    refine R_iload4 (pc := 85) dL_isWay_85 ?_
    refine R_iconst (pc := 87) (v := 0) dL_isWay_87 (by decide) ?_
    refine R_callV3 (pc := 88) (T := TX9) cal_X9_way kw586 kw587 kw588 dL_isWay_88 (c_X9_way hC h.nw h.hd) (by decide) (Nat.le_of_ble_eq_true rfl) (ci := 7) rfl hC.self ?_
    rintro _ _ ⟨⟨Q, rfl⟩, hC, -⟩
    rw [h.way_0 Q hi he, wv]
    refine R_istore5 (pc := 91) dL_isWay_91 rfl (by decide) ?_
    refine R_iload_n3 (pc := 93) dL_isWay_93 ?_
    refine R_aload_n0 (pc := 94) dL_isWay_94 ?_
    refine R_iload_n1 (pc := 95) dL_isWay_95 ?_
    refine R_callV1 (pc := 96) (T := TX9) cal_X9_reach kw520 kw521 kw522 dL_isWay_96 (c_X9_reach hC h.nw h.hd) (by decide) (Nat.le_of_ble_eq_true rfl) (ci := 7) rfl hC.self ?_
    rintro _ _ ⟨⟨Q, rfl⟩, hC, -⟩
    rw [h.reach_v Q hi]
    refine R_icmp_ne (pc := 99) 106 dL_isWay_99 (by decide) (fun c_99 => absurd rfl c_99) (fun c_99 => ?_)
    refine R_iconst (pc := 102) (v := 1) dL_isWay_102 (by decide) ?_
    refine R_goto (pc := 103) 107 dL_isWay_103 (by decide) ?_
    refine R_istore6 (pc := 107) dL_isWay_107 rfl (by decide) ?_
    refine R_iload6 (pc := 109) dL_isWay_109 ?_
    refine R_if_eq (pc := 111) 140 dL_isWay_111 (by decide) (fun c0 => False.elim (by revert c0; decide)) (fun _ => ?_)
    refine R_iload5 (pc := 114) dL_isWay_114 ?_
    refine R_if_lt (pc := 116) 140 dL_isWay_116 (by decide) (fun c_116 => absurd c_116 (nI_pos (by omega))) (fun c_116 => ?_)
    refine R_aload_n0 (pc := 119) dL_isWay_119 ?_
    refine R_iconst (pc := 120) (v := 1) dL_isWay_120 (by decide) ?_
    refine R_callV1 (pc := 121) (T := TX9) cal_X9_count kw339 kw340 kw341 dL_isWay_121 (c_X9_count hC) (by decide) (Nat.le_of_ble_eq_true rfl) (ci := 7) rfl hC.self ?_
    rintro _ _ ⟨rfl, hC, -⟩
    rw [ct1, hm, if_neg (by decide)]
    refine R_if_eq (pc := 124) 140 dL_isWay_124 (by decide) (fun c_124 => absurd c_124 (by decide)) (fun c_124 => ?_)
    refine R_aload_n0 (pc := 127) dL_isWay_127 ?_
    refine R_iload_n1 (pc := 128) dL_isWay_128 ?_
    refine R_bipush (pc := 129) (v := 10) dL_isWay_129 (by decide) ?_
    refine R_callV2 (pc := 131) (T := TX9) cal_X9_ship kw440 kw441 kw442 dL_isWay_131 (c_X9_ship hC) (by decide) (Nat.le_of_ble_eq_true rfl) (ci := 7) rfl hC.self ?_
    rintro _ _ ⟨rfl, hC, -⟩
    rw [h.sh10 hi]
    refine R_iconst (pc := 134) (v := 2) dL_isWay_134 (by decide) ?_
    refine R_irem (pc := 135) dL_isWay_135 (by decide) ?_
    refine R_iconst (pc := 136) (v := 1) dL_isWay_136 (by decide) ?_
    refine R_icmp_ne (pc := 137) 163 dL_isWay_137 (by decide) (fun c_137 => ?_) (fun c_137 => ?_)
    · skip
      obtain ⟨H, key, hI, g1, f4, f2, f3, f11, again, hfl, hne⟩ := h.sail hm hi he hp c_137
      have k1 := congrArg Prod.fst key
      have k2 := congrArg Prod.snd key
      dsimp only at k1 k2
      refine R_aload_n0 (pc := 163) dL_isWay_163 ?_
      refine R_iload_n1 (pc := 164) dL_isWay_164 ?_
      refine R_iload4 (pc := 165) dL_isWay_165 ?_
      refine R_iconst (pc := 167) (v := 2) dL_isWay_167 (by decide) ?_
      refine R_callV3 (pc := 168) (T := TX9) cal_X9_way kw586 kw587 kw588 dL_isWay_168 (c_X9_way hC h.nw h.hd) (by decide) (Nat.le_of_ble_eq_true rfl) (ci := 7) rfl hC.self ?_
      rintro _ _ ⟨⟨Q, rfl⟩, hC, -⟩
      rw [h.way_2 Q hi he hp]
      refine R_istore7 (pc := 171) dL_isWay_171 rfl (by decide) ?_
      refine R_aload_n0 (pc := 173) dL_isWay_173 ?_
      refine R_iload_n1 (pc := 174) dL_isWay_174 ?_
      refine R_iload5 (pc := 175) dL_isWay_175 ?_
      refine R_callV2 (pc := 177) (T := TX9) cal_X9_sail kw598 kw599 kw600 dL_isWay_177 (c_X9_sail hC hz) (by decide) (Nat.le_of_ble_eq_true rfl) (ci := 7) rfl hC.self ?_
      rintro _ _ ⟨rfl, hC, -⟩
      rw [k1, k2] at hC
      rw [k1]
      obtain ⟨C1, hC1, e1⟩ := act_out C (nI (c % 81)) (H, C.1.2)
      rw [← hC1] at hC
      have h1 : Inv sn T C1.1.1 := by rw [e1]; exact hI
      have m1 : C1.1.1.1 1 = 1 := by rw [e1]; show H.1 1 = 1; rw [g1]; exact hm
      have e12 : C1.1.2 = C.1.2 := by rw [e1]
      have z1 : sBz C1.1 := bz_of hz (Or.inr m1) e12
      have eH : C1.1.1 = H := by rw [e1]
      have a1 : k_sail C1.1.1 (nI i) (nI (wp C.1.1 i (c % 81))) = (-2, C1.1.1) := by rw [eH]; exact again
      have a1a := congrArg Prod.fst a1
      have a1b := congrArg Prod.snd a1
      dsimp only at a1a a1b
      have b4 : ¬ shF C1.1.1 i 4 = 0 := by rw [eH]; exact f4
      have b2 : shF C1.1.1 i 2 = nI (c % 81) := by rw [eH]; exact f2
      have b3 : shF C1.1.1 i 3 = nI (bhead (WB C.1.1 i) (c % 81)) := by rw [eH]; exact f3
      have b11 : shF C1.1.1 i 11 - shF C1.1.1 i 11 / 2 * 2 = 1 := by rw [eH]; exact f11
      refine R_iload4 (pc := 180) dL_isWay_180 ?_
      refine R_icmp_ne (pc := 182) 236 dL_isWay_182 (by decide) (fun c_182 => absurd rfl c_182) (fun c_182 => ?_)
      refine R_aload_n0 (pc := 185) dL_isWay_185 ?_
      refine R_iload_n1 (pc := 186) dL_isWay_186 ?_
      refine R_iconst (pc := 187) (v := 1) dL_isWay_187 (by decide) ?_
      refine R_callV2 (pc := 188) (T := TX9) cal_X9_ship kw440 kw441 kw442 dL_isWay_188 (c_X9_ship hC) (by decide) (Nat.le_of_ble_eq_true rfl) (ci := 7) rfl hC.self ?_
      rintro _ _ ⟨rfl, hC, -⟩
      rw [h1.sh1 hi b4, b2]
      refine R_iload4 (pc := 191) dL_isWay_191 ?_
      refine R_icmp_ne (pc := 193) 236 dL_isWay_193 (by decide) (fun c_193 => absurd rfl c_193) (fun c_193 => ?_)
      refine R_aload_n0 (pc := 196) dL_isWay_196 ?_
      refine R_iload_n1 (pc := 197) dL_isWay_197 ?_
      refine R_iconst (pc := 198) (v := 2) dL_isWay_198 (by decide) ?_
      refine R_callV2 (pc := 199) (T := TX9) cal_X9_ship kw440 kw441 kw442 dL_isWay_199 (c_X9_ship hC) (by decide) (Nat.le_of_ble_eq_true rfl) (ci := 7) rfl hC.self ?_
      rintro _ _ ⟨rfl, hC, -⟩
      rw [h1.sh2 hi, b3]
      refine R_iload7 (pc := 202) dL_isWay_202 ?_
      refine R_icmp_ne (pc := 204) 236 dL_isWay_204 (by decide) (fun c_204 => absurd rfl c_204) (fun c_204 => ?_)
      refine R_aload_n0 (pc := 207) dL_isWay_207 ?_
      refine R_iload_n1 (pc := 208) dL_isWay_208 ?_
      refine R_iload5 (pc := 209) dL_isWay_209 ?_
      refine R_callV2 (pc := 211) (T := TX9) cal_X9_sail kw598 kw599 kw600 dL_isWay_211 (c_X9_sail hC z1) (by decide) (Nat.le_of_ble_eq_true rfl) (ci := 7) rfl hC.self ?_
      rintro _ _ ⟨rfl, hC, -⟩
      rw [a1a, a1b, cact_m C1 (by decide)] at hC
      rw [a1a]
      refine R_bipush (pc := 214) (v := (-2)) dL_isWay_214 (by decide) ?_
      refine R_icmp_ne (pc := 216) 236 dL_isWay_216 (by decide) (fun c_216 => absurd rfl c_216) (fun c_216 => ?_)
      refine R_aload_n0 (pc := 219) dL_isWay_219 ?_
      refine R_iload_n1 (pc := 220) dL_isWay_220 ?_
      refine R_bipush (pc := 221) (v := 10) dL_isWay_221 (by decide) ?_
      refine R_callV2 (pc := 223) (T := TX9) cal_X9_ship kw440 kw441 kw442 dL_isWay_223 (c_X9_ship hC) (by decide) (Nat.le_of_ble_eq_true rfl) (ci := 7) rfl hC.self ?_
      rintro _ _ ⟨rfl, hC, -⟩
      rw [h1.sh10 hi]
      refine R_iconst (pc := 226) (v := 2) dL_isWay_226 (by decide) ?_
      refine R_irem (pc := 227) dL_isWay_227 (by decide) ?_
      refine R_iconst (pc := 228) (v := 1) dL_isWay_228 (by decide) ?_
      refine R_icmp_ne (pc := 229) 236 dL_isWay_229 (by decide) (fun c_229 => absurd b11 c_229) (fun c_229 => ?_)
      refine R_iconst (pc := 232) (v := 1) dL_isWay_232 (by decide) ?_
      refine R_goto (pc := 233) 237 dL_isWay_233 (by decide) ?_
      refine R_istore6 (pc := 237) dL_isWay_237 rfl (by decide) ?_
      refine R_iload6 (pc := 239) dL_isWay_239 ?_
      refine R_if_eq (pc := 241) 275 dL_isWay_241 (by decide) (fun c0 => False.elim (by revert c0; decide)) (fun _ => ?_)
      refine R_iload_n2 (pc := 244) dL_isWay_244 ?_
      refine R_bipush (pc := 245) (v := 8) dL_isWay_245 (by decide) ?_
      refine R_ishr (pc := 247) dL_isWay_247 ?_
      refine R_iconst (pc := 248) (v := 2) dL_isWay_248 (by decide) ?_
      refine R_irem (pc := 249) dL_isWay_249 (by decide) ?_
      refine R_if_eq (pc := 250) 271 dL_isWay_250 (by decide) (fun c_250 => ?_) (fun c_250 => ?_)
      · skip
        refine R_iconst (pc := 271) (v := 1) dL_isWay_271 (by decide) ?_
        refine R_goto (pc := 272) 276 dL_isWay_272 (by decide) ?_
        refine R_iret (pc := 276) rfl rfl dL_isWay_276 ?_
        exact ⟨rfl, C1, hC, h1, m1, e12⟩
      · skip
        refine R_aload_n0 (pc := 253) dL_isWay_253 ?_
        refine R_callV0 (pc := 254) (T := TX9) cal_X9_undo kw331 kw332 kw333 dL_isWay_254 (c_X9_undo hC) (by decide) (Nat.le_of_ble_eq_true rfl) (ci := 7) rfl hC.self ?_
        rintro _ _ ⟨rfl, hC, -⟩
        have u1 := (undo_act C (v := nI (c % 81)) (nI_pos' (by omega)) (H, C.1.2)).1
        have u2 := (undo_act C (v := nI (c % 81)) (nI_pos' (by omega)) (H, C.1.2)).2
        rw [← hC1] at u1 u2
        generalize (cundo C1).2 = C2 at hC u2
        have h2 : Inv sn T C2.1.1 := by rw [u2]; exact h
        have d4 : ¬ shF C2.1.1 i 4 = 0 := by rw [u2]; exact hfl
        have d2 : ¬ shF C2.1.1 i 2 = nI (c % 81) := by rw [u2]; exact hne
        refine R_if_lt (pc := 257) 275 dL_isWay_257 (by decide) (fun c_257 => absurd c_257 u1) (fun c_257 => ?_)
        refine R_aload_n0 (pc := 260) dL_isWay_260 ?_
        refine R_iload_n1 (pc := 261) dL_isWay_261 ?_
        refine R_iconst (pc := 262) (v := 1) dL_isWay_262 (by decide) ?_
        refine R_callV2 (pc := 263) (T := TX9) cal_X9_ship kw440 kw441 kw442 dL_isWay_263 (c_X9_ship hC) (by decide) (Nat.le_of_ble_eq_true rfl) (ci := 7) rfl hC.self ?_
        rintro _ _ ⟨rfl, hC, -⟩
        rw [h2.sh1 hi d4]
        refine R_iload4 (pc := 266) dL_isWay_266 ?_
        refine R_icmp_eq (pc := 268) 275 dL_isWay_268 (by decide) (fun c_268 => absurd c_268 d2) (fun c_268 => ?_)
        refine R_iconst (pc := 271) (v := 1) dL_isWay_271 (by decide) ?_
        refine R_goto (pc := 272) 276 dL_isWay_272 (by decide) ?_
        refine R_iret (pc := 276) rfl rfl dL_isWay_276 ?_
        exact ⟨rfl, C2, hC, h2, by rw [u2]; exact hm, by rw [u2]⟩
    · skip
      refine R_iload6 (pc := 140) dL_isWay_140 ?_
      refine R_if_eq (pc := 142) 161 dL_isWay_142 (by decide) (fun c0 => False.elim (by revert c0; decide)) (fun _ => ?_)
      refine R_iload5 (pc := 145) dL_isWay_145 ?_
      refine R_if_gt (pc := 147) 157 dL_isWay_147 (by decide) (fun c_147 => ?_) (fun c_147 => absurd ((nI_ltI (a := 0) (by decide) (by omega)).mpr (by omega)) c_147)
      refine R_iconst (pc := 157) (v := 1) dL_isWay_157 (by decide) ?_
      refine R_goto (pc := 158) 162 dL_isWay_158 (by decide) ?_
      refine R_iret (pc := 162) rfl rfl dL_isWay_162 ?_
      exact ⟨rfl, C, hC, h, hm, rfl⟩

set_option maxHeartbeats 4000000 in
set_option maxRecDepth 100000 in
theorem LW_loop (h : Inv sn T C.1.1) (hz : sBz C.1) (hm : C.1.1.1 1 = 1) {i c : Nat} (hi : i < sn) (hc : c < 2 ^ 31) : ∀ (n e : Nat) (hh : AH) (x5 : Option Value), e + n = 81 → CAt hh w C → (x5 = none ∨ ∃ z, x5 = some (.int z)) → (0 < e → ∃ z, x5 = some (.int z)) → RunM l D cA N0 m_L_isWay 7 0 0 (PA w sn T C) hh 0 0 5 [some (.ref w), some (.int (nI i)), some (.int (nI c)), some (.int (nI (breach (WB C.1.1 i) e))), some (.int (nI e)), x5, none, none] [] := by
  have hn := h.n
  intro n
  induction n with
  | zero =>
    intro e hh x5 hen hC h5 hx
    have hee : e = 81 := by omega
    subst hee
    refine R_iload4 (pc := 5) dL_isWay_5 ?_
    refine R_bipush (pc := 7) (v := 81) dL_isWay_7 (by decide) ?_
    refine R_icmp_ge (pc := 9) 77 dL_isWay_9 (by decide) (fun c_9 => ?_) (fun c_9 => absurd (by decide) c_9)
    exact LW_tail h hz hm hi hc hC (hx (by omega))
  | succ n ih =>
    intro e hh x5 hen hC h5 hx
    have hlt : e < 81 := by omega
    by_cases hp : wp C.1.1 i e = 0
    · have hbr : nI (breach (WB C.1.1 i) e) + 0 = nI (breach (WB C.1.1 i) (e + 1)) := by
        rw [show (0 : Int32) = nI 0 from rfl, nI_add]
        exact congrArg (fun z => nI (breach (WB C.1.1 i) e + z)) (if_neg (show ¬ 0 < bbest (WB C.1.1 i) e by have : bbest (WB C.1.1 i) e = 0 := hp; omega)).symm
      rcases h5 with rfl | ⟨z5, rfl⟩
      · skip
        refine R_iload4 (pc := 5) dL_isWay_5 ?_
        refine R_bipush (pc := 7) (v := 81) dL_isWay_7 (by decide) ?_
        refine R_icmp_ge (pc := 9) 77 dL_isWay_9 (by decide) (fun c_9 => absurd c_9 (nI_ge hlt (by decide))) (fun c_9 => ?_)
        refine R_aload_n0 (pc := 12) dL_isWay_12 ?_
        refine R_iload_n1 (pc := 13) dL_isWay_13 ?_
        refine R_iload4 (pc := 14) dL_isWay_14 ?_
        refine R_iconst (pc := 16) (v := 0) dL_isWay_16 (by decide) ?_
        refine R_callV3 (pc := 17) (T := TX9) cal_X9_way kw586 kw587 kw588 dL_isWay_17 (c_X9_way hC h.nw h.hd) (by decide) (Nat.le_of_ble_eq_true rfl) (ci := 7) rfl hC.self ?_
        rintro _ _ ⟨⟨Q, rfl⟩, hC, -⟩
        rw [h.way_0 Q hi hlt, if_pos hp]
        refine R_istore5 (pc := 20) dL_isWay_20 rfl (by decide) ?_
        refine R_iload_n3 (pc := 22) dL_isWay_22 ?_
        refine R_iload5 (pc := 23) dL_isWay_23 ?_
        refine R_if_le (pc := 25) 32 dL_isWay_25 (by decide) (fun c_25 => ?_) (fun c_25 => absurd (by decide) c_25)
        refine R_iconst (pc := 32) (v := 0) dL_isWay_32 (by decide) ?_
        refine R_iadd (pc := 33) dL_isWay_33 ?_
        rw [hbr]
        refine R_istore_n3 (pc := 34) dL_isWay_34 rfl (by decide) ?_
        refine R_iload5 (pc := 35) dL_isWay_35 ?_
        refine R_if_le (pc := 37) 71 dL_isWay_37 (by decide) (fun c_37 => ?_) (fun c_37 => absurd (by decide) c_37)
        refine R_iinc4 (pc := 71) dL_isWay_71 rfl (by decide) ?_
        refine R_goto (pc := 74) 5 dL_isWay_74 (by decide) ?_
        rw [nI_s]
        exact ih (e + 1) _ _ (by omega) hC (Or.inr ⟨_, rfl⟩) (fun _ => ⟨_, rfl⟩)
      · skip
        refine R_iload4 (pc := 5) dL_isWay_5 ?_
        refine R_bipush (pc := 7) (v := 81) dL_isWay_7 (by decide) ?_
        refine R_icmp_ge (pc := 9) 77 dL_isWay_9 (by decide) (fun c_9 => absurd c_9 (nI_ge hlt (by decide))) (fun c_9 => ?_)
        refine R_aload_n0 (pc := 12) dL_isWay_12 ?_
        refine R_iload_n1 (pc := 13) dL_isWay_13 ?_
        refine R_iload4 (pc := 14) dL_isWay_14 ?_
        refine R_iconst (pc := 16) (v := 0) dL_isWay_16 (by decide) ?_
        refine R_callV3 (pc := 17) (T := TX9) cal_X9_way kw586 kw587 kw588 dL_isWay_17 (c_X9_way hC h.nw h.hd) (by decide) (Nat.le_of_ble_eq_true rfl) (ci := 7) rfl hC.self ?_
        rintro _ _ ⟨⟨Q, rfl⟩, hC, -⟩
        rw [h.way_0 Q hi hlt, if_pos hp]
        refine R_istore5 (pc := 20) dL_isWay_20 rfl (by decide) ?_
        refine R_iload_n3 (pc := 22) dL_isWay_22 ?_
        refine R_iload5 (pc := 23) dL_isWay_23 ?_
        refine R_if_le (pc := 25) 32 dL_isWay_25 (by decide) (fun c_25 => ?_) (fun c_25 => absurd (by decide) c_25)
        refine R_iconst (pc := 32) (v := 0) dL_isWay_32 (by decide) ?_
        refine R_iadd (pc := 33) dL_isWay_33 ?_
        rw [hbr]
        refine R_istore_n3 (pc := 34) dL_isWay_34 rfl (by decide) ?_
        refine R_iload5 (pc := 35) dL_isWay_35 ?_
        refine R_if_le (pc := 37) 71 dL_isWay_37 (by decide) (fun c_37 => ?_) (fun c_37 => absurd (by decide) c_37)
        refine R_iinc4 (pc := 71) dL_isWay_71 rfl (by decide) ?_
        refine R_goto (pc := 74) 5 dL_isWay_74 (by decide) ?_
        rw [nI_s]
        exact ih (e + 1) _ _ (by omega) hC (Or.inr ⟨_, rfl⟩) (fun _ => ⟨_, rfl⟩)
    · have hbr : nI (breach (WB C.1.1 i) e) + 1 = nI (breach (WB C.1.1 i) (e + 1)) := by
        rw [show (1 : Int32) = nI 1 from rfl, nI_add]
        exact congrArg (fun z => nI (breach (WB C.1.1 i) e + z)) (if_pos (show 0 < bbest (WB C.1.1 i) e from Nat.pos_of_ne_zero hp)).symm
      obtain ⟨m, hmm, em, w1, w2, w3, w4, w5, w6, w7⟩ := h.wpf (u := i) (by omega) hlt hp
      have hpos : ¬ nI (wp C.1.1 i e) ≤ 0 := nI_nle (Nat.pos_of_ne_zero hp) (by omega)
      have hle : ¬ nI m < nI (nd (wp C.1.1 i e)) := fun z => by
        have := (nI_ltI (by omega) (by omega)).mp z
        omega
      have hon : k_cont C.1.1 (nI e) = -9 := (h.free_c hlt).mpr w5
      rcases h5 with rfl | ⟨z5, rfl⟩
      · skip
        refine R_iload4 (pc := 5) dL_isWay_5 ?_
        refine R_bipush (pc := 7) (v := 81) dL_isWay_7 (by decide) ?_
        refine R_icmp_ge (pc := 9) 77 dL_isWay_9 (by decide) (fun c_9 => absurd c_9 (nI_ge hlt (by decide))) (fun c_9 => ?_)
        refine R_aload_n0 (pc := 12) dL_isWay_12 ?_
        refine R_iload_n1 (pc := 13) dL_isWay_13 ?_
        refine R_iload4 (pc := 14) dL_isWay_14 ?_
        refine R_iconst (pc := 16) (v := 0) dL_isWay_16 (by decide) ?_
        refine R_callV3 (pc := 17) (T := TX9) cal_X9_way kw586 kw587 kw588 dL_isWay_17 (c_X9_way hC h.nw h.hd) (by decide) (Nat.le_of_ble_eq_true rfl) (ci := 7) rfl hC.self ?_
        rintro _ _ ⟨⟨Q, rfl⟩, hC, -⟩
        rw [h.way_0 Q hi hlt, if_neg hp]
        refine R_istore5 (pc := 20) dL_isWay_20 rfl (by decide) ?_
        refine R_iload_n3 (pc := 22) dL_isWay_22 ?_
        refine R_iload5 (pc := 23) dL_isWay_23 ?_
        refine R_if_le (pc := 25) 32 dL_isWay_25 (by decide) (fun c_25 => absurd c_25 hpos) (fun c_25 => ?_)
        refine R_iconst (pc := 28) (v := 1) dL_isWay_28 (by decide) ?_
        refine R_goto (pc := 29) 33 dL_isWay_29 (by decide) ?_
        refine R_iadd (pc := 33) dL_isWay_33 ?_
        rw [hbr]
        refine R_istore_n3 (pc := 34) dL_isWay_34 rfl (by decide) ?_
        refine R_iload5 (pc := 35) dL_isWay_35 ?_
        refine R_if_le (pc := 37) 71 dL_isWay_37 (by decide) (fun c_37 => absurd c_37 hpos) (fun c_37 => ?_)
        refine R_aload_n0 (pc := 40) dL_isWay_40 ?_
        refine R_iload_n1 (pc := 41) dL_isWay_41 ?_
        refine R_iload4 (pc := 42) dL_isWay_42 ?_
        refine R_iconst (pc := 44) (v := 1) dL_isWay_44 (by decide) ?_
        refine R_callV3 (pc := 45) (T := TX9) cal_X9_way kw586 kw587 kw588 dL_isWay_45 (c_X9_way hC h.nw h.hd) (by decide) (Nat.le_of_ble_eq_true rfl) (ci := 7) rfl hC.self ?_
        rintro _ _ ⟨⟨Q, rfl⟩, hC, -⟩
        rw [h.way_1 Q hi hlt hp]
        refine R_aload_n0 (pc := 48) dL_isWay_48 ?_
        refine R_iload_n1 (pc := 49) dL_isWay_49 ?_
        refine R_bipush (pc := 50) (v := 8) dL_isWay_50 (by decide) ?_
        refine R_callV2 (pc := 52) (T := TX9) cal_X9_ship kw440 kw441 kw442 dL_isWay_52 (c_X9_ship hC) (by decide) (Nat.le_of_ble_eq_true rfl) (ci := 7) rfl hC.self ?_
        rintro _ _ ⟨rfl, hC, -⟩
        rw [h.sh8 hi, em]
        refine R_icmp_gt (pc := 55) 69 dL_isWay_55 (by decide) (fun c_55 => absurd c_55 hle) (fun c_55 => ?_)
        refine R_aload_n0 (pc := 58) dL_isWay_58 ?_
        refine R_iload4 (pc := 59) dL_isWay_59 ?_
        refine R_callV1 (pc := 61) (T := TX9) cal_X9_on kw411 kw412 kw413 dL_isWay_61 (c_X9_on hC) (by decide) (Nat.le_of_ble_eq_true rfl) (ci := 7) rfl hC.self ?_
        rintro _ _ ⟨rfl, hC, -⟩
        rw [p_on_c C hlt, hon]
        refine R_bipush (pc := 64) (v := (-9)) dL_isWay_64 (by decide) ?_
        refine R_icmp_eq (pc := 66) 71 dL_isWay_66 (by decide) (fun c_66 => ?_) (fun c_66 => absurd rfl c_66)
        refine R_iinc4 (pc := 71) dL_isWay_71 rfl (by decide) ?_
        refine R_goto (pc := 74) 5 dL_isWay_74 (by decide) ?_
        rw [nI_s]
        exact ih (e + 1) _ _ (by omega) hC (Or.inr ⟨_, rfl⟩) (fun _ => ⟨_, rfl⟩)
      · skip
        refine R_iload4 (pc := 5) dL_isWay_5 ?_
        refine R_bipush (pc := 7) (v := 81) dL_isWay_7 (by decide) ?_
        refine R_icmp_ge (pc := 9) 77 dL_isWay_9 (by decide) (fun c_9 => absurd c_9 (nI_ge hlt (by decide))) (fun c_9 => ?_)
        refine R_aload_n0 (pc := 12) dL_isWay_12 ?_
        refine R_iload_n1 (pc := 13) dL_isWay_13 ?_
        refine R_iload4 (pc := 14) dL_isWay_14 ?_
        refine R_iconst (pc := 16) (v := 0) dL_isWay_16 (by decide) ?_
        refine R_callV3 (pc := 17) (T := TX9) cal_X9_way kw586 kw587 kw588 dL_isWay_17 (c_X9_way hC h.nw h.hd) (by decide) (Nat.le_of_ble_eq_true rfl) (ci := 7) rfl hC.self ?_
        rintro _ _ ⟨⟨Q, rfl⟩, hC, -⟩
        rw [h.way_0 Q hi hlt, if_neg hp]
        refine R_istore5 (pc := 20) dL_isWay_20 rfl (by decide) ?_
        refine R_iload_n3 (pc := 22) dL_isWay_22 ?_
        refine R_iload5 (pc := 23) dL_isWay_23 ?_
        refine R_if_le (pc := 25) 32 dL_isWay_25 (by decide) (fun c_25 => absurd c_25 hpos) (fun c_25 => ?_)
        refine R_iconst (pc := 28) (v := 1) dL_isWay_28 (by decide) ?_
        refine R_goto (pc := 29) 33 dL_isWay_29 (by decide) ?_
        refine R_iadd (pc := 33) dL_isWay_33 ?_
        rw [hbr]
        refine R_istore_n3 (pc := 34) dL_isWay_34 rfl (by decide) ?_
        refine R_iload5 (pc := 35) dL_isWay_35 ?_
        refine R_if_le (pc := 37) 71 dL_isWay_37 (by decide) (fun c_37 => absurd c_37 hpos) (fun c_37 => ?_)
        refine R_aload_n0 (pc := 40) dL_isWay_40 ?_
        refine R_iload_n1 (pc := 41) dL_isWay_41 ?_
        refine R_iload4 (pc := 42) dL_isWay_42 ?_
        refine R_iconst (pc := 44) (v := 1) dL_isWay_44 (by decide) ?_
        refine R_callV3 (pc := 45) (T := TX9) cal_X9_way kw586 kw587 kw588 dL_isWay_45 (c_X9_way hC h.nw h.hd) (by decide) (Nat.le_of_ble_eq_true rfl) (ci := 7) rfl hC.self ?_
        rintro _ _ ⟨⟨Q, rfl⟩, hC, -⟩
        rw [h.way_1 Q hi hlt hp]
        refine R_aload_n0 (pc := 48) dL_isWay_48 ?_
        refine R_iload_n1 (pc := 49) dL_isWay_49 ?_
        refine R_bipush (pc := 50) (v := 8) dL_isWay_50 (by decide) ?_
        refine R_callV2 (pc := 52) (T := TX9) cal_X9_ship kw440 kw441 kw442 dL_isWay_52 (c_X9_ship hC) (by decide) (Nat.le_of_ble_eq_true rfl) (ci := 7) rfl hC.self ?_
        rintro _ _ ⟨rfl, hC, -⟩
        rw [h.sh8 hi, em]
        refine R_icmp_gt (pc := 55) 69 dL_isWay_55 (by decide) (fun c_55 => absurd c_55 hle) (fun c_55 => ?_)
        refine R_aload_n0 (pc := 58) dL_isWay_58 ?_
        refine R_iload4 (pc := 59) dL_isWay_59 ?_
        refine R_callV1 (pc := 61) (T := TX9) cal_X9_on kw411 kw412 kw413 dL_isWay_61 (c_X9_on hC) (by decide) (Nat.le_of_ble_eq_true rfl) (ci := 7) rfl hC.self ?_
        rintro _ _ ⟨rfl, hC, -⟩
        rw [p_on_c C hlt, hon]
        refine R_bipush (pc := 64) (v := (-9)) dL_isWay_64 (by decide) ?_
        refine R_icmp_eq (pc := 66) 71 dL_isWay_66 (by decide) (fun c_66 => ?_) (fun c_66 => absurd rfl c_66)
        refine R_iinc4 (pc := 71) dL_isWay_71 rfl (by decide) ?_
        refine R_goto (pc := 74) 5 dL_isWay_74 (by decide) ?_
        rw [nI_s]
        exact ih (e + 1) _ _ (by omega) hC (Or.inr ⟨_, rfl⟩) (fun _ => ⟨_, rfl⟩)

set_option maxHeartbeats 4000000 in
set_option maxRecDepth 100000 in
theorem c_L_isWay {hh : AH} (h : Inv sn T C.1.1) (hz : sBz C.1) (hm : C.1.1.1 1 = 1) {i c : Nat} (hi : i < sn) (hc : c < 2 ^ 31) (hC : CAt hh w C) : Spec l D cA N0 m_L_isWay 7 0 0 [.ref w, .int (nI i), .int (nI c)] hh (PA w sn T C) := by
  refine Spec.of (L := [some (.ref w), some (.int (nI i)), some (.int (nI c)), none, none, none, none, none]) (by decide) rfl (Nat.le_of_ble_eq_true rfl) ?_
  refine R_iconst (pc := 0) (v := 0) dL_isWay_0 (by decide) ?_
  refine R_istore_n3 (pc := 1) dL_isWay_1 rfl (by decide) ?_
  refine R_iconst (pc := 2) (v := 0) dL_isWay_2 (by decide) ?_
  refine R_istore4 (pc := 3) dL_isWay_3 rfl (by decide) ?_
  exact LW_loop h hz hm hi hc 81 0 _ _ rfl hC (Or.inl rfl) (fun z => absurd z (by decide))

end LV33
