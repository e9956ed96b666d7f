/-! THE LAW: law -/
def tk (t : Nat) : Int32 := if t = 0 then 0 else if t = 1 then 1 else 3
theorem tk_fin : ∀ t : Fin 4, tk t.1 ||| 1 <<< (nI (t.1 % 2) &&& 31) = tk (t.1 + 1) := by decide +kernel
theorem kbit_3 : kbit 3 = 2 := by decide +kernel
theorem str_le {sn T T2 : Nat} {C C2 : Cm} (h : Inv sn T C.1.1) (h2 : Inv sn T2 C2.1.1) (hE : sm (eg C2.1.1) 8 ≤ sm (eg C.1.1) 8) : ¬ p_strength C 0 + p_strength C 1 + 1 < p_strength C2 0 + p_strength C2 1 := by
  have a0 : p_strength C 0 = nI (sm (ec C.1.1 0) 8 / 8) := h.eights 0
  have a1 : p_strength C 1 = nI (sm (ec C.1.1 1) 8 / 8) := h.eights 1
  have b0 : p_strength C2 0 = nI (sm (ec C2.1.1 0) 8 / 8) := h2.eights 0
  have b1 : p_strength C2 1 = nI (sm (ec C2.1.1 1) 8 / 8) := h2.eights 1
  have l0 := h.ecle 0
  have l1 := h.ecle 1
  have l2 := h2.ecle 0
  have l3 := h2.ecle 1
  have s1 := h.ecs
  have s2 := h2.ecs
  rw [a0, a1, b0, b1, nI_add, nI_add, nI_1, nI_ltI (by omega) (by omega)]
  omega
theorem fill_v {C : Cm} {t : Nat} : s_fill C.1 (nI (t % 2)) = (C.1.1.1 0, (C.1.1, if nI (t % 2) = 0 then C.1.1 else C.1.2.1, if nI (t % 2) = 0 then C.1.2.2.1 else C.1.1, C.1.2.2.2 ||| 1 <<< (nI (t % 2) &&& 31))) := by
  have : t % 2 < 2 := Nat.mod_lt _ (by decide)
  exact if_pos ⟨nI_pos' (by omega), (nI_leI (b := 1) (by omega) (by decide)).mpr (by omega)⟩
theorem resume_v {C : Cm} (h3 : C.1.2.2.2 = 3) : s_resume C.1 1 = (C.1.2.2.1.1 0, (C.1.2.2.1, C.1.2)) := by
  unfold s_resume
  rw [if_pos (by decide), h3, if_neg (by decide)]
  rfl
section LV37
variable {l : Launch} {D : va_G} {cA : Nat → ClassId} {N0 : Nat} {nm : String} {b L : Nat} {xs : Nat → Int32} {k n w sn : Nat}
set_option maxHeartbeats 4000000 in
set_option maxRecDepth 100000 in
theorem law_acts (hk : k ≤ 600000) (hnn : n ≤ 7302250) (hL : L ≤ 260) (hsn : 0 < sn) {t : Nat} (ht : t < 4) {C0 : Cm} (hz0 : sBz C0.1) (K : ∀ (C : Cm) (hh : AH), CAt hh w C → Inv sn t C.1.1 → C.1.1.1 1 = 1 → C.1.2 = C0.1.2 → RunL l D cA N0 nm b L xs hh k n 130 [some (.ref b), some (.ref w), some (.int 1), some (.int (nI t)), some (.int (nI 8))] []) : ∀ (m q : Nat) (C : Cm) (hh : AH), q + m = 8 → CAt hh w C → Inv sn t C.1.1 → C.1.1.1 1 = 1 → C.1.2 = C0.1.2 → RunL l D cA N0 nm b L xs hh k n 79 [some (.ref b), some (.ref w), some (.int 1), some (.int (nI t)), some (.int (nI q))] [] := by
  intro m
  induction m with
  | zero =>
    intro q C hh hq hC h hm e0
    have hqe : q = 8 := by omega
    subst hqe
    refine R_iload4 (pc := 79) dL_law_79 ?_
    refine R_bipush (pc := 81) (v := 8) dL_law_81 (by decide) ?_
    refine R_icmp_ge (pc := 83) 130 dL_law_83 (by decide) (fun c_83 => ?_) (fun c_83 => absurd (by decide) c_83)
    exact K C _ hC h hm e0
  | succ m ih =>
    intro q C hh hq hC h hm e0
    have hlt : q < 8 := by omega
    have hz : sBz C.1 := bz_of hz0 (Or.inr hm) e0
    have h24 : (24 : Int32) + 8 * nI t + nI q = nI (24 + 8 * t + q) := by
      rw [show (24 : Int32) = nI 24 from rfl, show (8 : Int32) = nI 8 from rfl, pk_mul, nI_add, nI_add]
    refine R_iload4 (pc := 79) dL_law_79 ?_
    refine R_bipush (pc := 81) (v := 8) dL_law_81 (by decide) ?_
    refine R_icmp_ge (pc := 83) 130 dL_law_83 (by decide) (fun c_83 => absurd c_83 (nI_ge hlt (by decide))) (fun c_83 => ?_)
    refine R_iload_n2 (pc := 86) dL_law_86 ?_
    refine R_if_eq (pc := 87) 130 dL_law_87 (by decide) (fun c0 => False.elim (by revert c0; decide)) (fun _ => ?_)
    refine R_aload_n1 (pc := 90) dL_law_90 ?_
    refine R_aload_n0 (pc := 91) dL_law_91 ?_
    refine R_bipush (pc := 92) (v := 24) dL_law_92 (by decide) ?_
    refine R_bipush (pc := 94) (v := 8) dL_law_94 (by decide) ?_
    refine R_iload_n3 (pc := 96) dL_law_96 ?_
    refine R_imul (pc := 97) dL_law_97 ?_
    refine R_iadd (pc := 98) dL_law_98 ?_
    refine R_iload4 (pc := 99) dL_law_99 ?_
    refine R_iadd (pc := 101) dL_law_101 ?_
    rw [h24]
    refine R_callSX2 (pc := 102) (fun s q => XL.xp s q) cal_L_cell kw388 kw389 dL_law_102 (c_L_cell hL (by omega)) ⟨by decide, by show _ ≤ 600000; omega, by show _ ≤ 7302250; omega⟩ (Nat.le_of_ble_eq_true rfl) ?_
    rintro _ _ ⟨⟨c, hc, rfl⟩, rfl⟩
    refine R_callS2 (pc := 105) cal_L_acts kw580 kw581 dL_law_105 (c_L_acts h hz hm hsn hc hC) ⟨by decide, by show _ ≤ 600000; omega, by show _ ≤ 7302250; omega⟩ (Nat.le_of_ble_eq_true rfl) ?_
    rintro _ _ ⟨rfl, C1, hC, h1, m1, e1⟩
    refine R_if_eq (pc := 108) 122 dL_law_108 (by decide) (fun c0 => False.elim (by revert c0; decide)) (fun _ => ?_)
    refine R_aload_n1 (pc := 111) dL_law_111 ?_
    refine R_callS1 (pc := 112) cal_L_isAll kw471 kw472 dL_law_112 (c_L_isAll h1 hC) ⟨by decide, by show _ ≤ 600000; omega, by show _ ≤ 7302250; omega⟩ (Nat.le_of_ble_eq_true rfl) ?_
    rintro _ _ ⟨rfl, hC⟩
    refine R_if_eq (pc := 115) 122 dL_law_115 (by decide) (fun c0 => False.elim (by revert c0; decide)) (fun _ => ?_)
    refine R_iconst (pc := 118) (v := 1) dL_law_118 (by decide) ?_
    refine R_goto (pc := 119) 123 dL_law_119 (by decide) ?_
    refine R_istore_n2 (pc := 123) dL_law_123 rfl (by decide) ?_
    refine R_iinc4 (pc := 124) dL_law_124 rfl (by decide) ?_
    refine R_goto (pc := 127) 79 dL_law_127 (by decide) ?_
    rw [nI_s]
    exact ih (q + 1) C1 _ (by omega) hC h1 m1 (e1.trans e0)

set_option maxHeartbeats 4000000 in
set_option maxRecDepth 100000 in
theorem law_end (hk : k ≤ 600000) (hnn : n ≤ 7302250) {t : Nat} (ht : t < 4) {C : Cm} {hh : AH} (hC : CAt hh w C) (h : Inv sn t C.1.1) (hm : C.1.1.1 1 = 1) (hz : sBz C.1) (htk : C.1.2.2.2 = tk t) (K : ∀ (C2 : Cm) (hh : AH) (x4 : Int32), CAt hh w C2 → Inv sn (t + 1) C2.1.1 → C2.1.1.1 1 = 0 → sBz C2.1 → C2.1.2.2.2 = tk (t + 1) → (t + 1 = 4 → Inv sn 3 C2.1.2.2.1 ∧ C2.1.2.2.1.1 1 = 1) → RunL l D cA N0 nm b L xs hh k n 54 [some (.ref b), some (.ref w), some (.int 1), some (.int (nI (t + 1))), some (.int x4)] []) : RunL l D cA N0 nm b L xs hh k n 130 [some (.ref b), some (.ref w), some (.int 1), some (.int (nI t)), some (.int (nI 8))] [] := by
  have hmod : nI t - nI t / 2 * 2 = nI (t % 2) := pk_rem (d := 2) (by omega) (by decide) (by decide)
  refine R_aload_n1 (pc := 130) dL_law_130 ?_
  refine R_iconst (pc := 131) (v := 0) dL_law_131 (by decide) ?_
  refine R_callV1 (pc := 132) (T := TX9) cal_X9_strength kw377 kw378 kw379 dL_law_132 (c_X9_strength hC) ⟨by decide, by show _ ≤ 600000; omega, by show _ ≤ 7302250; omega⟩ (Nat.le_of_ble_eq_true rfl) (ci := 7) rfl hC.self ?_
  rintro _ _ ⟨rfl, hC, -⟩
  refine R_aload_n1 (pc := 135) dL_law_135 ?_
  refine R_iconst (pc := 136) (v := 1) dL_law_136 (by decide) ?_
  refine R_callV1 (pc := 137) (T := TX9) cal_X9_strength kw377 kw378 kw379 dL_law_137 (c_X9_strength hC) ⟨by decide, by show _ ≤ 600000; omega, by show _ ≤ 7302250; omega⟩ (Nat.le_of_ble_eq_true rfl) (ci := 7) rfl hC.self ?_
  rintro _ _ ⟨rfl, hC, -⟩
  refine R_iadd (pc := 140) dL_law_140 ?_
  refine R_istore4 (pc := 141) dL_law_141 rfl (by decide) ?_
  refine R_iload_n2 (pc := 143) dL_law_143 ?_
  refine R_if_eq (pc := 144) 205 dL_law_144 (by decide) (fun c0 => False.elim (by revert c0; decide)) (fun _ => ?_)
  refine R_aload_n1 (pc := 147) dL_law_147 ?_
  refine R_iload_n3 (pc := 148) dL_law_148 ?_
  refine R_iconst (pc := 149) (v := 2) dL_law_149 (by decide) ?_
  refine R_irem (pc := 150) dL_law_150 (by decide) ?_
  rw [hmod]
  refine R_callV1 (pc := 151) (T := TX9) cal_X9_take kw307 kw308 kw309 dL_law_151 (c_X9_take hC hz) ⟨by decide, by show _ ≤ 600000; omega, by show _ ≤ 7302250; omega⟩ (Nat.le_of_ble_eq_true rfl) (ci := 7) rfl hC.self ?_
  rintro _ _ ⟨rfl, hC, -⟩
  have fv := fill_v (C := C) (t := t)
  have fa := congrArg Prod.fst fv
  have fb := congrArg Prod.snd fv
  dsimp only at fa fb
  rw [fa, fb] at hC
  rw [fa]
  obtain ⟨C1, hC1, e1⟩ := act_out C (C.1.1.1 0) (C.1.1, if nI (t % 2) = 0 then C.1.1 else C.1.2.1, if nI (t % 2) = 0 then C.1.2.2.1 else C.1.1, C.1.2.2.2 ||| 1 <<< (nI (t % 2) &&& 31))
  rw [← hC1] at hC
  have eG1 : C1.1.1 = C.1.1 := by rw [e1]
  have h1 : Inv sn t C1.1.1 := by rw [eG1]; exact h
  have m1 : C1.1.1.1 1 = 1 := by rw [eG1]; exact hm
  have z1 : sBz C1.1 := by
    rw [e1]
    refine ⟨hz.1, ?_, ?_⟩
    · show bz (if nI (t % 2) = 0 then C.1.1 else C.1.2.1)
      split
      · exact hz.1
      · exact hz.2.1
    · show bz (if nI (t % 2) = 0 then C.1.2.2.1 else C.1.1)
      split
      · exact hz.2.2
      · exact hz.1
  have t1 : C1.1.2.2.2 = tk (t + 1) := by
    rw [e1]
    show C.1.2.2.2 ||| 1 <<< (nI (t % 2) &&& 31) = _
    rw [htk]
    exact tk_fin ⟨t, ht⟩
  have s3 : t + 1 = 4 → Inv sn 3 C1.1.2.2.1 ∧ C1.1.2.2.1.1 1 = 1 := fun y => by
    have y3 : t = 3 := by omega
    subst y3
    rw [e1]
    exact ⟨h, hm⟩
  obtain ⟨H, key, hI, mH, hE⟩ := h1.end m1 (by omega)
  have k1 := congrArg Prod.fst key
  have k2 := congrArg Prod.snd key
  dsimp only at k1 k2
  have kt : C.1.1.1 0 = nI t := h.k0
  refine R_iload_n3 (pc := 154) dL_law_154 ?_
  refine R_icmp_ne (pc := 155) 205 dL_law_155 (by decide) (fun c_155 => absurd kt c_155) (fun c_155 => ?_)
  refine R_aload_n1 (pc := 158) dL_law_158 ?_
  refine R_callV0 (pc := 159) (T := TX9) cal_X9_end kw250 kw251 kw252 dL_law_159 (c_X9_end hC z1) ⟨by decide, by show _ ≤ 600000; omega, by show _ ≤ 7302250; omega⟩ (Nat.le_of_ble_eq_true rfl) (ci := 7) rfl hC.self ?_
  rintro _ _ ⟨rfl, hC, -⟩
  rw [k1, k2] at hC
  rw [k1]
  obtain ⟨C2, hC2, e2⟩ := act_out C1 (nI (t + 1)) (H, C1.1.2)
  rw [← hC2] at hC
  have eH : C2.1.1 = H := by rw [e2]
  have e22 : C2.1.2 = C1.1.2 := by rw [e2]
  have h2 : Inv sn (t + 1) C2.1.1 := by rw [eH]; exact hI
  have m2 : C2.1.1.1 1 = 0 := by rw [eH]; exact mH
  have z2 : sBz C2.1 := ⟨Or.inl m2, by rw [e22]; exact z1.2.1, by rw [e22]; exact z1.2.2⟩
  have hEE : sm (eg C2.1.1) 8 ≤ sm (eg C.1.1) 8 := by rw [eH, ← eG1]; exact hE
  refine R_iload_n3 (pc := 162) dL_law_162 ?_
  refine R_iconst (pc := 163) (v := 1) dL_law_163 (by decide) ?_
  refine R_iadd (pc := 164) dL_law_164 ?_
  refine R_icmp_ne (pc := 165) 205 dL_law_165 (by decide) (fun c_165 => absurd (nI_1 t).symm c_165) (fun c_165 => ?_)
  refine R_aload_n1 (pc := 168) dL_law_168 ?_
  refine R_callS1 (pc := 169) cal_L_isAll kw471 kw472 dL_law_169 (c_L_isAll h2 hC) ⟨by decide, by show _ ≤ 600000; omega, by show _ ≤ 7302250; omega⟩ (Nat.le_of_ble_eq_true rfl) ?_
  rintro _ _ ⟨rfl, hC⟩
  refine R_if_eq (pc := 172) 205 dL_law_172 (by decide) (fun c0 => False.elim (by revert c0; decide)) (fun _ => ?_)
  refine R_aload_n1 (pc := 175) dL_law_175 ?_
  refine R_iconst (pc := 176) (v := 1) dL_law_176 (by decide) ?_
  refine R_callV1 (pc := 177) (T := TX9) cal_X9_count kw339 kw340 kw341 dL_law_177 (c_X9_count hC) ⟨by decide, by show _ ≤ 600000; omega, by show _ ≤ 7302250; omega⟩ (Nat.le_of_ble_eq_true rfl) (ci := 7) rfl hC.self ?_
  rintro _ _ ⟨rfl, hC, -⟩
  rw [ct1, m2, if_pos rfl]
  refine R_if_ne (pc := 180) 205 dL_law_180 (by decide) (fun c_180 => absurd rfl c_180) (fun c_180 => ?_)
  refine R_aload_n1 (pc := 183) dL_law_183 ?_
  refine R_iconst (pc := 184) (v := 0) dL_law_184 (by decide) ?_
  refine R_callV1 (pc := 185) (T := TX9) cal_X9_strength kw377 kw378 kw379 dL_law_185 (c_X9_strength hC) ⟨by decide, by show _ ≤ 600000; omega, by show _ ≤ 7302250; omega⟩ (Nat.le_of_ble_eq_true rfl) (ci := 7) rfl hC.self ?_
  rintro _ _ ⟨rfl, hC, -⟩
  refine R_aload_n1 (pc := 188) dL_law_188 ?_
  refine R_iconst (pc := 189) (v := 1) dL_law_189 (by decide) ?_
  refine R_callV1 (pc := 190) (T := TX9) cal_X9_strength kw377 kw378 kw379 dL_law_190 (c_X9_strength hC) ⟨by decide, by show _ ≤ 600000; omega, by show _ ≤ 7302250; omega⟩ (Nat.le_of_ble_eq_true rfl) (ci := 7) rfl hC.self ?_
  rintro _ _ ⟨rfl, hC, -⟩
  refine R_iadd (pc := 193) dL_law_193 ?_
  refine R_iload4 (pc := 194) dL_law_194 ?_
  refine R_iconst (pc := 196) (v := 1) dL_law_196 (by decide) ?_
  refine R_iadd (pc := 197) dL_law_197 ?_
  refine R_icmp_gt (pc := 198) 205 dL_law_198 (by decide) (fun c_198 => absurd c_198 (str_le h h2 hEE)) (fun c_198 => ?_)
  refine R_iconst (pc := 201) (v := 1) dL_law_201 (by decide) ?_
  refine R_goto (pc := 202) 206 dL_law_202 (by decide) ?_
  refine R_istore_n2 (pc := 206) dL_law_206 rfl (by decide) ?_
  refine R_iinc3 (pc := 207) dL_law_207 rfl (by decide) ?_
  refine R_goto (pc := 210) 54 dL_law_210 (by decide) ?_
  rw [nI_s]
  exact K C2 _ _ hC h2 m2 z2 (by rw [e22]; exact t1) (fun y => by rw [e22]; exact s3 y)

set_option maxHeartbeats 4000000 in
set_option maxRecDepth 100000 in
theorem law_turns (hk : k ≤ 600000) (hnn : n ≤ 7302250) (hL : L ≤ 260) (hsn : 0 < sn) : ∀ (m t : Nat) (C : Cm) (hh : AH) (x4 : Option Value), t + m = 4 → CAt hh w C → Inv sn t C.1.1 → C.1.1.1 1 = 0 → sBz C.1 → C.1.2.2.2 = tk t → (t = 4 → Inv sn 3 C.1.2.2.1 ∧ C.1.2.2.1.1 1 = 1) → (x4 = none ∨ ∃ y, x4 = some (.int y)) → RunL l D cA N0 nm b L xs hh k n 54 [some (.ref b), some (.ref w), some (.int 1), some (.int (nI t)), x4] [] := by
  intro m
  induction m with
  | zero =>
    intro t C hh x4 htm hC h hm hz htk hs3 hx
    have hte : t = 4 := by omega
    subst hte
    have g3 := hs3 rfl
    have htk : C.1.2.2.2 = 3 := htk
    have r0 := resume_v htk
    have r1 := congrArg Prod.fst r0
    have r2 := congrArg Prod.snd r0
    dsimp only at r1 r2
    refine R_iload_n3 (pc := 54) dL_law_54 ?_
    refine R_iconst (pc := 55) (v := 4) dL_law_55 (by decide) ?_
    refine R_icmp_ge (pc := 56) 213 dL_law_56 (by decide) (fun c_56 => ?_) (fun c_56 => absurd (by decide) c_56)
    refine R_iload_n2 (pc := 213) dL_law_213 ?_
    refine R_if_eq (pc := 214) 256 dL_law_214 (by decide) (fun c0 => False.elim (by revert c0; decide)) (fun _ => ?_)
    refine R_aload_n1 (pc := 217) dL_law_217 ?_
    refine R_iconst (pc := 218) (v := 1) dL_law_218 (by decide) ?_
    refine R_callV1 (pc := 219) (T := TX9) cal_X9_restore kw323 kw324 kw325 dL_law_219 (c_X9_restore hC hz) ⟨by decide, by show _ ≤ 600000; omega, by show _ ≤ 7302250; omega⟩ (Nat.le_of_ble_eq_true rfl) (ci := 7) rfl hC.self ?_
    rintro _ _ ⟨rfl, hC, -⟩
    rw [r1, r2] at hC
    rw [r1]
    obtain ⟨C1, hC1, e1⟩ := act_out C (C.1.2.2.1.1 0) (C.1.2.2.1, C.1.2)
    rw [← hC1] at hC
    have eG : C1.1.1 = C.1.2.2.1 := by rw [e1]
    have h1 : Inv sn 3 C1.1.1 := by rw [eG]; exact g3.1
    have m1 : C1.1.1.1 1 = 1 := by rw [eG]; exact g3.2
    have t1 : C1.1.2.2.2 = 3 := by rw [e1]; exact htk
    refine R_iconst (pc := 222) (v := 3) dL_law_222 (by decide) ?_
    refine R_icmp_ne (pc := 223) 256 dL_law_223 (by decide) (fun c_223 => absurd g3.1.k0 c_223) (fun c_223 => ?_)
    refine R_aload_n1 (pc := 226) dL_law_226 ?_
    refine R_iconst (pc := 227) (v := 1) dL_law_227 (by decide) ?_
    refine R_callV1 (pc := 228) (T := TX9) cal_X9_count kw339 kw340 kw341 dL_law_228 (c_X9_count hC) ⟨by decide, by show _ ≤ 600000; omega, by show _ ≤ 7302250; omega⟩ (Nat.le_of_ble_eq_true rfl) (ci := 7) rfl hC.self ?_
    rintro _ _ ⟨rfl, hC, -⟩
    rw [ct1, m1, if_neg (by decide)]
    refine R_iconst (pc := 231) (v := 1) dL_law_231 (by decide) ?_
    refine R_icmp_ne (pc := 232) 256 dL_law_232 (by decide) (fun c_232 => absurd rfl c_232) (fun c_232 => ?_)
    refine R_aload_n1 (pc := 235) dL_law_235 ?_
    refine R_bipush (pc := 236) (v := 9) dL_law_236 (by decide) ?_
    refine R_callV1 (pc := 238) (T := TX9) cal_X9_count kw339 kw340 kw341 dL_law_238 (c_X9_count hC) ⟨by decide, by show _ ≤ 600000; omega, by show _ ≤ 7302250; omega⟩ (Nat.le_of_ble_eq_true rfl) (ci := 7) rfl hC.self ?_
    rintro _ _ ⟨rfl, hC, -⟩
    rw [ct9, t1, kbit_3]
    refine R_iconst (pc := 241) (v := 2) dL_law_241 (by decide) ?_
    refine R_icmp_ne (pc := 242) 256 dL_law_242 (by decide) (fun c_242 => absurd rfl c_242) (fun c_242 => ?_)
    refine R_aload_n1 (pc := 245) dL_law_245 ?_
    refine R_callS1 (pc := 246) cal_L_isAll kw471 kw472 dL_law_246 (c_L_isAll h1 hC) ⟨by decide, by show _ ≤ 600000; omega, by show _ ≤ 7302250; omega⟩ (Nat.le_of_ble_eq_true rfl) ?_
    rintro _ _ ⟨rfl, hC⟩
    refine R_if_eq (pc := 249) 256 dL_law_249 (by decide) (fun c0 => False.elim (by revert c0; decide)) (fun _ => ?_)
    refine R_iconst (pc := 252) (v := 1) dL_law_252 (by decide) ?_
    refine R_goto (pc := 253) 257 dL_law_253 (by decide) ?_
    exact R_lawret dL_law_257 hk hnn
  | succ m ih =>
    intro t C hh x4 htm hC h hm hz htk hs3 hx
    have hlt : t < 4 := by omega
    have h20 : (20 : Int32) + nI t = nI (20 + t) := nI_add 20 t
    rcases hx with rfl | ⟨y, rfl⟩
    · skip
      refine R_iload_n3 (pc := 54) dL_law_54 ?_
      refine R_iconst (pc := 55) (v := 4) dL_law_55 (by decide) ?_
      refine R_icmp_ge (pc := 56) 213 dL_law_56 (by decide) (fun c_56 => absurd c_56 (nI_ge hlt (by decide))) (fun c_56 => ?_)
      refine R_iload_n2 (pc := 59) dL_law_59 ?_
      refine R_if_eq (pc := 60) 213 dL_law_60 (by decide) (fun c0 => False.elim (by revert c0; decide)) (fun _ => ?_)
      refine R_aload_n1 (pc := 63) dL_law_63 ?_
      refine R_aload_n0 (pc := 64) dL_law_64 ?_
      refine R_bipush (pc := 65) (v := 20) dL_law_65 (by decide) ?_
      refine R_iload_n3 (pc := 67) dL_law_67 ?_
      refine R_iadd (pc := 68) dL_law_68 ?_
      rw [h20]
      refine R_callSX2 (pc := 69) (fun s q => XL.xp s q) cal_L_cell kw388 kw389 dL_law_69 (c_L_cell hL (by omega)) ⟨by decide, by show _ ≤ 600000; omega, by show _ ≤ 7302250; omega⟩ (Nat.le_of_ble_eq_true rfl) ?_
      rintro _ _ ⟨⟨c, hc, rfl⟩, rfl⟩
      refine R_callS2 (pc := 72) cal_L_tells kw676 kw677 dL_law_72 (c_L_tells h hz hm hsn hc hC) ⟨by decide, by show _ ≤ 600000; omega, by show _ ≤ 7302250; omega⟩ (Nat.le_of_ble_eq_true rfl) ?_
      rintro _ _ ⟨rfl, C1, hC, h1, m1, e1⟩
      refine R_istore_n2 (pc := 75) dL_law_75 rfl (by decide) ?_
      refine R_iconst (pc := 76) (v := 0) dL_law_76 (by decide) ?_
      refine R_istore4 (pc := 77) dL_law_77 rfl (by decide) ?_
      refine law_acts hk hnn hL hsn hlt hz (fun C2 hh hC h2 m2 e2 => ?_) 8 0 C1 _ rfl hC h1 m1 e1
      exact law_end hk hnn hlt hC h2 m2 (bz_of hz (Or.inr m2) e2) (by rw [e2]; exact htk) (fun C3 hh x4 hC h3 m3 z3 t3 s3 => ih (t + 1) C3 hh _ (by omega) hC h3 m3 z3 t3 s3 (Or.inr ⟨_, rfl⟩))
    · skip
      refine R_iload_n3 (pc := 54) dL_law_54 ?_
      refine R_iconst (pc := 55) (v := 4) dL_law_55 (by decide) ?_
      refine R_icmp_ge (pc := 56) 213 dL_law_56 (by decide) (fun c_56 => absurd c_56 (nI_ge hlt (by decide))) (fun c_56 => ?_)
      refine R_iload_n2 (pc := 59) dL_law_59 ?_
      refine R_if_eq (pc := 60) 213 dL_law_60 (by decide) (fun c0 => False.elim (by revert c0; decide)) (fun _ => ?_)
      refine R_aload_n1 (pc := 63) dL_law_63 ?_
      refine R_aload_n0 (pc := 64) dL_law_64 ?_
      refine R_bipush (pc := 65) (v := 20) dL_law_65 (by decide) ?_
      refine R_iload_n3 (pc := 67) dL_law_67 ?_
      refine R_iadd (pc := 68) dL_law_68 ?_
      rw [h20]
      refine R_callSX2 (pc := 69) (fun s q => XL.xp s q) cal_L_cell kw388 kw389 dL_law_69 (c_L_cell hL (by omega)) ⟨by decide, by show _ ≤ 600000; omega, by show _ ≤ 7302250; omega⟩ (Nat.le_of_ble_eq_true rfl) ?_
      rintro _ _ ⟨⟨c, hc, rfl⟩, rfl⟩
      refine R_callS2 (pc := 72) cal_L_tells kw676 kw677 dL_law_72 (c_L_tells h hz hm hsn hc hC) ⟨by decide, by show _ ≤ 600000; omega, by show _ ≤ 7302250; omega⟩ (Nat.le_of_ble_eq_true rfl) ?_
      rintro _ _ ⟨rfl, C1, hC, h1, m1, e1⟩
      refine R_istore_n2 (pc := 75) dL_law_75 rfl (by decide) ?_
      refine R_iconst (pc := 76) (v := 0) dL_law_76 (by decide) ?_
      refine R_istore4 (pc := 77) dL_law_77 rfl (by decide) ?_
      refine law_acts hk hnn hL hsn hlt hz (fun C2 hh hC h2 m2 e2 => ?_) 8 0 C1 _ rfl hC h1 m1 e1
      exact law_end hk hnn hlt hC h2 m2 (bz_of hz (Or.inr m2) e2) (by rw [e2]; exact htk) (fun C3 hh x4 hC h3 m3 z3 t3 s3 => ih (t + 1) C3 hh _ (by omega) hC h3 m3 z3 t3 s3 (Or.inr ⟨_, rfl⟩))

end LV37
/-! THE LAW: from its start -/
set_option maxHeartbeats 4000000 in
set_option maxRecDepth 100000 in
theorem law_run {l : Launch} {D : va_G} {cA : Nat → ClassId} {N0 : Nat} {nm : String} {b L : Nat} {xs : Nat → Int32} (hL : L ≤ 260) : RunL l D cA N0 nm b L xs (N0, fun _ => none) 0 0 0 [some (.ref b), none, none, none, none] [] := by
  have hz0 : sBz C0.1 := ⟨Or.inl rfl, Or.inl rfl, Or.inl rfl⟩
  refine R_new (pc := 0) (C := RX9) (T := TX9) (N := 4) (ci := 7) (fs := [.null, .null, .null, .null]) (ty := tyX9) dL_law_0 kw34 kw35 kw20 rfl inXW7 tyX9_ok dfl_X9 (by decide) (by decide) ?_
  refine R_nmd (a := N0) rfl (fun g0 eg0 fg0 zg0 kg0 => ?_)
  refine R_dup (pc := 3) dL_law_3 rfl ?_
  refine R_callI0 (pc := 4) cal_X9_init kw36 kw37 rfl rfl dL_law_4 (c_X9_init zg0 fg0) (by decide) (Nat.le_of_ble_eq_true rfl) ?_
  rintro _ h1 ⟨rfl, hs1, hk1, hC⟩
  refine R_astore_n1 (pc := 7) dL_law_7 rfl (by decide) ?_
  refine R_aload_n1 (pc := 8) dL_law_8 ?_
  refine R_callV0 (pc := 9) (T := TX9) cal_X9_undo kw331 kw332 kw333 dL_law_9 (c_X9_undo hC) (by decide) (Nat.le_of_ble_eq_true rfl) (ci := 7) rfl hC.self ?_
  rintro _ _ ⟨rfl, hC, -⟩
  rw [show (cundo C0).2 = C0 from rfl] at hC
  rw [show (cundo C0).1 = -2 from rfl]
  refine R_bipush (pc := 12) (v := (-2)) dL_law_12 (by decide) ?_
  refine R_icmp_ne (pc := 14) 36 dL_law_14 (by decide) (fun c_14 => absurd rfl c_14) (fun c_14 => ?_)
  refine R_aload_n1 (pc := 17) dL_law_17 ?_
  refine R_aload_n0 (pc := 18) dL_law_18 ?_
  refine R_callSX2 (pc := 19) (fun s q => XL.xp s q) cal_L_lays kw393 kw394 dL_law_19 (c_L_lays hL Inv_0 hz0 rfl hC) (by decide) (Nat.le_of_ble_eq_true rfl) ?_
  rintro _ _ ⟨rfl, C2, sn, hC, h, hm, e0⟩
  refine R_if_eq (pc := 22) 36 dL_law_22 (by decide) (fun c0 => False.elim (by revert c0; decide)) (fun _ => ?_)
  refine R_aload_n1 (pc := 25) dL_law_25 ?_
  refine R_callS1 (pc := 26) cal_L_isAll kw471 kw472 dL_law_26 (c_L_isAll h hC) (by decide) (Nat.le_of_ble_eq_true rfl) ?_
  rintro _ _ ⟨rfl, hC⟩
  refine R_if_eq (pc := 29) 36 dL_law_29 (by decide) (fun c0 => False.elim (by revert c0; decide)) (fun _ => ?_)
  refine R_iconst (pc := 32) (v := 1) dL_law_32 (by decide) ?_
  refine R_goto (pc := 33) 37 dL_law_33 (by decide) ?_
  refine R_istore_n2 (pc := 37) dL_law_37 rfl (by decide) ?_
  refine R_iload_n2 (pc := 38) dL_law_38 ?_
  refine R_if_eq (pc := 39) 50 dL_law_39 (by decide) (fun c0 => False.elim (by revert c0; decide)) (fun _ => ?_)
  refine R_aload_n1 (pc := 42) dL_law_42 ?_
  refine R_iconst (pc := 43) (v := 5) dL_law_43 (by decide) ?_
  refine R_callV1 (pc := 44) (T := TX9) cal_X9_count kw339 kw340 kw341 dL_law_44 (c_X9_count hC) (by decide) (Nat.le_of_ble_eq_true rfl) (ci := 7) rfl hC.self ?_
  rintro _ _ ⟨rfl, hC, -⟩
  rw [h.c5]
  refine R_if_ne (pc := 47) 52 dL_law_47 (by decide) (fun c_47 => ?_) (fun c_47 => ?_)
  · skip
    refine R_iconst (pc := 52) (v := 0) dL_law_52 (by decide) ?_
    refine R_istore_n3 (pc := 53) dL_law_53 rfl (by decide) ?_
    exact law_turns (by decide) (by decide) hL (Nat.pos_of_ne_zero (fun z => c_47 (by rw [z]; rfl))) 4 0 C2 _ _ rfl hC h hm (bz_of hz0 (Or.inl hm) e0) (by rw [e0]; rfl) (fun z => absurd z (by decide)) (Or.inl rfl)
  · skip
    refine R_iload_n2 (pc := 50) dL_law_50 ?_
    exact R_lawret dL_law_51 (by decide) (by decide)
/-- YOUR PART: from the entry, for every script of at most 260 ints, the law comes to its end with true ('hflags': the launch's flags, for a law that throws: no stack traces) -/
theorem whole_start {p : Program} {e : Env} {s : State} {m : MethodId} {below : List Frame} {meth : Method} {c : Code} (l : Launch) (hflags : l.flags = flags0) {b L : Nat} {xs : Nat → Int32} (hL : L ≤ 260) (C0 : lw_At p s m meth c b L xs) : W p l e room_1 s m #[Value.ref b] below meth c s.heap [] 0 0 (lw_Z below #[Value.ref b] s) (entryFrame m ([Value.ref b] : List Value).toArray 5) := by
  obtain ⟨hx, hb, hrt, hml, hown, hts, hX, hbl, hlk, hgv⟩ := C0
  obtain ⟨D, cA, hKK⟩ := kk_start hts
  have hl := lv_entry [Value.ref b] (n := 5) (Nat.le_of_ble_eq_true rfl)
  rw [lg_entry_eq]
  have K := law_run (l := l) (D := D) (cA := cA) (N0 := s.heap.size) (nm := meth.name) (b := b) hL p e s m #[Value.ref b] below meth c s.heap [] _ ⟨hx, hb, hml, hrt, hlk, hown, rfl, wsa_ok hts, hKK, Nat.le_refl _, hX, hbl, rfl⟩ ⟨rfl, fun a e h => by cases h⟩ va_S.rf (by rw [LH]; exact hl)
  intro T hT X
  obtain ⟨t, t1, t2⟩ := K T hT X
  exact ⟨t, t1, t2 rfl⟩
