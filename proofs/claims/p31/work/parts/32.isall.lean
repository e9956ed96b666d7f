theorem R_iretX {l : Launch} {D : va_G} {cA : Nat → ClassId} {N0 : Nat} {b Ln : Nat} {xs : Nat → Int32} {h : AH} {pc : Nat} {L : List (Option Value)} {M : MI} {d mc ms : Nat} {post : Option Value → AH → Prop} {v : Int32} {ty : FieldType} (hret : M.2.2.2 = some ty) (hn : narrow ty (.int v) = .int v) (hd : decode M.2.1 pc = .ok (.ireturn, 1)) (hp : post (some (.int v)) h) : RunX l D cA N0 M d mc ms b Ln xs post h mc ms pc L [.int v] := by
  intro p e s m args below meth c H locs ls C hR hS hL
  obtain ⟨hx, hb, hml, hrt, hlk, hown, hnm, hts, hK, hN, hX⟩ := id C
  exact W.zret hx hb (hrt.trans hret) hn (fun t ht hW => ⟨⟨some (.int v), h, rfl, hp, by rw [ht]; exact hR⟩, hS.F ht⟩) hS.2.2 hd hlk
theorem shr_pc {m i : Nat} (hm : m < 256) (hi : i < 8) : nI m >>> (nI i &&& 31) &&& 1 = nI (m / 2 ^ i % 2) := by
  rw [shr_fin ⟨m, hm⟩ ⟨i, hi⟩]
  show (if m.testBit i = true then (1 : Int32) else 0) = _
  rw [Nat.testBit_eq_decide_div_mod_eq]
  have : m / 2 ^ i % 2 < 2 := Nat.mod_lt _ (by decide)
  rcases (by omega : m / 2 ^ i % 2 = 0 ∨ m / 2 ^ i % 2 = 1) with e | e <;> rw [e] <;> rfl
/-! THE LAW: cell, ones, isAll -/
section LV32
variable {l : Launch} {D : va_G} {cA : Nat → ClassId} {N0 : Nat} {w b Ln : Nat} {xs : Nat → Int32} {sn T : Nat} {C : Cm}
set_option maxHeartbeats 4000000 in
set_option maxRecDepth 100000 in
theorem c_L_cell {h : AH} (hL : Ln ≤ 260) {k : Nat} (hk : k < 2 ^ 20) : SpecX l D cA N0 m_L_cell 1 0 0 b Ln xs [.ref b, .int (nI k)] h (fun r h' => (∃ j, j < 2 ^ 31 ∧ r = some (.int (nI j))) ∧ h' = h) := by
  refine SpecX.of (L := [some (.ref b), some (.int (nI k))]) (by decide) rfl (Nat.le_of_ble_eq_true rfl) ?_
  refine R_iload_n1 (pc := 0) dL_cell_0 ?_
  refine R_aload_n0 (pc := 1) dL_cell_1 ?_
  refine R_slen (pc := 2) (fun _ q => q) dL_cell_2 ?_
  refine R_icmp_ge (pc := 3) 12 dL_cell_3 (by decide) (fun c_3 => ?_) (fun c_3 => ?_)
  · skip
    have d_3 := Int32.not_lt.mpr c_3
    refine R_ldc (pc := 12) dL_cell_12 kw391 ?_
    refine R_iload_n1 (pc := 14) dL_cell_14 ?_
    refine R_imul (pc := 15) dL_cell_15 ?_
    refine R_bipush (pc := 16) (v := 109) dL_cell_16 (by decide) ?_
    refine R_iadd (pc := 18) dL_cell_18 ?_
    refine R_ldc (pc := 19) dL_cell_19 kw392 ?_
    refine R_iand (pc := 21) dL_cell_21 ?_
    refine R_iretX (pc := 22) rfl rfl dL_cell_22 ?_
    obtain ⟨j, hj, ej⟩ := pk_andE _ (m := 2147483647) 31 (by decide)
    exact ⟨⟨j, hj, congrArg (fun z => some (Value.int z)) ej⟩, rfl⟩
  · skip
    have d_3 := Int32.not_le.mp c_3
    have hlt : k < Ln := Nat.lt_of_not_le (fun z => c_3 ((nI_leI (by omega) (by omega)).mpr z))
    refine R_aload_n0 (pc := 6) dL_cell_6 ?_
    refine R_iload_n1 (pc := 7) dL_cell_7 ?_
    refine R_sld (pc := 8) (fun _ q => q) dL_cell_8 hlt (by omega) ?_
    refine R_goto (pc := 9) 19 dL_cell_9 (by decide) ?_
    refine R_ldc (pc := 19) dL_cell_19 kw392 ?_
    refine R_iand (pc := 21) dL_cell_21 ?_
    refine R_iretX (pc := 22) rfl rfl dL_cell_22 ?_
    obtain ⟨j, hj, ej⟩ := pk_andE _ (m := 2147483647) 31 (by decide)
    exact ⟨⟨j, hj, congrArg (fun z => some (Value.int z)) ej⟩, rfl⟩

set_option maxHeartbeats 4000000 in
set_option maxRecDepth 100000 in
theorem L_L_ones {h : AH} {m : Nat} (hm : m < 256) : ∀ (n i : Nat), i + n = 8 → True → RunM l D cA N0 m_L_ones 1 0 0 (fun r h' => r = some (.int (nI (pcn m 8))) ∧ h' = h) h 0 0 4 [some (.int (nI m)), some (.int (nI (pcn m i))), some (.int (nI i))] [] := by
  intro n
  induction n with
  | zero =>
    intro i hin hinv 
    have hie : i = 8 := by omega
    subst hie
    refine R_iload_n2 (pc := 4) dL_ones_4 ?_
    refine R_bipush (pc := 5) (v := 8) dL_ones_5 (by decide) ?_
    refine R_icmp_ge (pc := 7) 24 dL_ones_7 (by decide) (fun c_7 => ?_) (fun c_7 => absurd (by decide) c_7)
    refine R_iload_n1 (pc := 24) dL_ones_24 ?_
    refine R_iret (pc := 25) rfl rfl dL_ones_25 ?_
    exact ⟨rfl, rfl⟩
  | succ n ih =>
    intro i hin hinv 
    have hlt : i < 8 := by omega
    refine R_iload_n2 (pc := 4) dL_ones_4 ?_
    refine R_bipush (pc := 5) (v := 8) dL_ones_5 (by decide) ?_
    refine R_icmp_ge (pc := 7) 24 dL_ones_7 (by decide) (fun c_7 => absurd c_7 (nI_ge hlt (by decide))) (fun c_7 => ?_)
    refine R_iload_n1 (pc := 10) dL_ones_10 ?_
    refine R_iload_n0 (pc := 11) dL_ones_11 ?_
    refine R_iload_n2 (pc := 12) dL_ones_12 ?_
    refine R_ishr (pc := 13) dL_ones_13 ?_
    refine R_iconst (pc := 14) (v := 1) dL_ones_14 (by decide) ?_
    refine R_iand (pc := 15) dL_ones_15 ?_
    refine R_iadd (pc := 16) dL_ones_16 ?_
    refine R_istore_n1 (pc := 17) dL_ones_17 rfl (by decide) ?_
    refine R_iinc2 (pc := 18) dL_ones_18 rfl (by decide) ?_
    refine R_goto (pc := 21) 4 dL_ones_21 (by decide) ?_
    rw [nI_s, shr_pc hm (by omega), nI_add, ← pcn_s]
    exact ih (i + 1) (by omega) trivial

set_option maxHeartbeats 4000000 in
set_option maxRecDepth 100000 in
theorem c_L_ones {h : AH} {m : Nat} (hm : m < 256) : Spec l D cA N0 m_L_ones 1 0 0 [.int (nI m)] h (fun r h' => r = some (.int (nI (pcn m 8))) ∧ h' = h) := by
  refine Spec.of (L := [some (.int (nI m)), none, none]) (by decide) rfl (Nat.le_of_ble_eq_true rfl) ?_
  refine R_iconst (pc := 0) (v := 0) dL_ones_0 (by decide) ?_
  refine R_istore_n1 (pc := 1) dL_ones_1 rfl (by decide) ?_
  refine R_iconst (pc := 2) (v := 0) dL_ones_2 (by decide) ?_
  refine R_istore_n2 (pc := 3) dL_ones_3 rfl (by decide) ?_
  exact L_L_ones hm 8 0 rfl trivial

set_option maxHeartbeats 4000000 in
set_option maxRecDepth 100000 in
theorem LA_j (h : Inv sn T C.1.1) {i s : Nat} {H : Int32} (hi : i < sn) (hs : s < 2) (K : ∀ hh x10, CAt hh w C → RunM l D cA N0 m_L_isAll 7 0 0 (fun r h' => r = some (.int 1) ∧ CAt h' w C) hh 0 0 415 [some (.ref w), some (.int (nI (mb (fla C.1.1) 8))), some (.int 1), some (.int (H)), some (.int (nI i)), none, none, some (.int (nI s)), some (.int (nI (mb (tgb C.1.1 i (nI s)) 8))), some (.int (nI sn)), x10] []) : ∀ (n j : Nat) (hh : AH) (x10 : Option Value), j + n = sn → CAt hh w C → (x10 = none ∨ ∃ z, x10 = some (.int z)) → RunM l D cA N0 m_L_isAll 7 0 0 (fun r h' => r = some (.int 1) ∧ CAt h' w C) hh 0 0 308 [some (.ref w), some (.int (nI (mb (fla C.1.1) 8))), some (.int 1), some (.int (H)), some (.int (nI i)), none, none, some (.int (nI s)), some (.int (nI (mb (tgb C.1.1 i (nI s)) 8))), some (.int (nI j)), x10] [] := by
  have hn := h.n
  intro n
  induction n with
  | zero =>
    intro j hh x10 hjn hC hx
    have hje : j = sn := by omega
    subst hje
    refine R_iload9 (pc := 308) dL_isAll_308 ?_
    refine R_aload_n0 (pc := 310) dL_isAll_310 ?_
    refine R_iconst (pc := 311) (v := 5) dL_isAll_311 (by decide) ?_
    refine R_callV1 (pc := 312) (T := TX9) cal_X9_count kw339 kw340 kw341 dL_isAll_312 (c_X9_count hC) (by decide) (Nat.le_of_ble_eq_true rfl) (ci := 7) rfl hC.self ?_
    rintro _ _ ⟨rfl, hC, -⟩
    rw [h.c5]
    refine R_icmp_ge (pc := 315) 415 dL_isAll_315 (by decide) (fun c_315 => ?_) (fun c_315 => absurd (Int32.le_refl _) c_315)
    exact K _ _ hC
  | succ n ih =>
    intro j hh x10 hjn hC hx
    have hlt : j < sn := by omega
    by_cases ht : tgb C.1.1 i (nI s) j = true
    · have hb : nI (mb (tgb C.1.1 i (nI s)) 8) >>> (nI j &&& 31) &&& 1 = 1 := by rw [shr_mb _ (by omega), if_pos ht]
      have hij : i ≠ j := fun z => by rw [z, tgb_self] at ht; cases ht
      have hne : ¬ nI i = nI j := nIne (by omega) (by omega) hij
      have hth : nI (mb (thb C.1.1 j) 8) >>> (nI i &&& 31) &&& 1 = 1 := by rw [shr_mb _ (by omega), if_pos (tgb_th (sd01 hs) ht)]
      obtain ⟨q, hq, eq⟩ := h.hit_t hi hlt hij (sd01 hs) ht
      rcases hx with rfl | ⟨z10, rfl⟩
      · skip
        refine R_iload9 (pc := 308) dL_isAll_308 ?_
        refine R_aload_n0 (pc := 310) dL_isAll_310 ?_
        refine R_iconst (pc := 311) (v := 5) dL_isAll_311 (by decide) ?_
        refine R_callV1 (pc := 312) (T := TX9) cal_X9_count kw339 kw340 kw341 dL_isAll_312 (c_X9_count hC) (by decide) (Nat.le_of_ble_eq_true rfl) (ci := 7) rfl hC.self ?_
        rintro _ _ ⟨rfl, hC, -⟩
        rw [h.c5]
        refine R_icmp_ge (pc := 315) 415 dL_isAll_315 (by decide) (fun c_315 => absurd c_315 (nI_ge hlt (by omega))) (fun c_315 => ?_)
        refine R_iload_n2 (pc := 318) dL_isAll_318 ?_
        refine R_if_eq (pc := 319) 415 dL_isAll_319 (by decide) (fun c0 => False.elim (by revert c0; decide)) (fun _ => ?_)
        refine R_iload8 (pc := 322) dL_isAll_322 ?_
        refine R_iload9 (pc := 324) dL_isAll_324 ?_
        refine R_ishr (pc := 326) dL_isAll_326 ?_
        refine R_iconst (pc := 327) (v := 1) dL_isAll_327 (by decide) ?_
        refine R_iand (pc := 328) dL_isAll_328 ?_
        refine R_iconst (pc := 329) (v := 1) dL_isAll_329 (by decide) ?_
        refine R_icmp_ne (pc := 330) 337 dL_isAll_330 (by decide) (fun c_330 => absurd hb c_330) (fun c_330 => ?_)
        refine R_iconst (pc := 333) (v := 1) dL_isAll_333 (by decide) ?_
        refine R_goto (pc := 334) 338 dL_isAll_334 (by decide) ?_
        refine R_istore10 (pc := 338) dL_isAll_338 rfl (by decide) ?_
        refine R_iload4 (pc := 340) dL_isAll_340 ?_
        refine R_iload9 (pc := 342) dL_isAll_342 ?_
        refine R_icmp_ne (pc := 344) 360 dL_isAll_344 (by decide) (fun c_344 => ?_) (fun c_344 => absurd c_344 hne)
        refine R_iload10 (pc := 360) dL_isAll_360 ?_
        refine R_aload_n0 (pc := 362) dL_isAll_362 ?_
        refine R_iload4 (pc := 363) dL_isAll_363 ?_
        refine R_iload7 (pc := 365) dL_isAll_365 ?_
        refine R_iload9 (pc := 367) dL_isAll_367 ?_
        refine R_callV3 (pc := 369) (T := TX9) cal_X9_hits kw571 kw572 kw573 dL_isAll_369 (c_X9_hits hC) (by decide) (Nat.le_of_ble_eq_true rfl) (ci := 7) rfl hC.self ?_
        rintro _ _ ⟨rfl, hC, -⟩
        rw [eq]
        refine R_if_lt (pc := 372) 379 dL_isAll_372 (by decide) (fun c_372 => absurd c_372 (nI_pos (by omega))) (fun c_372 => ?_)
        refine R_iconst (pc := 375) (v := 1) dL_isAll_375 (by decide) ?_
        refine R_goto (pc := 376) 380 dL_isAll_376 (by decide) ?_
        refine R_icmp_ne (pc := 380) 407 dL_isAll_380 (by decide) (fun c0 => False.elim (by revert c0; decide)) (fun _ => ?_)
        refine R_iload10 (pc := 383) dL_isAll_383 ?_
        refine R_if_eq (pc := 385) 403 dL_isAll_385 (by decide) (fun c0 => False.elim (by revert c0; decide)) (fun _ => ?_)
        refine R_aload_n0 (pc := 388) dL_isAll_388 ?_
        refine R_iload9 (pc := 389) dL_isAll_389 ?_
        refine R_callV1 (pc := 391) (T := TX9) cal_X9_threats kw560 kw561 kw562 dL_isAll_391 (c_X9_threats hC) (by decide) (Nat.le_of_ble_eq_true rfl) (ci := 7) rfl hC.self ?_
        rintro _ _ ⟨rfl, hC, -⟩
        rw [h.thv hlt]
        refine R_iload4 (pc := 394) dL_isAll_394 ?_
        refine R_ishr (pc := 396) dL_isAll_396 ?_
        refine R_iconst (pc := 397) (v := 1) dL_isAll_397 (by decide) ?_
        refine R_iand (pc := 398) dL_isAll_398 ?_
        refine R_iconst (pc := 399) (v := 1) dL_isAll_399 (by decide) ?_
        refine R_icmp_ne (pc := 400) 407 dL_isAll_400 (by decide) (fun c_400 => absurd hth c_400) (fun c_400 => ?_)
        refine R_iconst (pc := 403) (v := 1) dL_isAll_403 (by decide) ?_
        refine R_goto (pc := 404) 408 dL_isAll_404 (by decide) ?_
        refine R_istore_n2 (pc := 408) dL_isAll_408 rfl (by decide) ?_
        refine R_iinc9 (pc := 409) dL_isAll_409 rfl (by decide) ?_
        refine R_goto (pc := 412) 308 dL_isAll_412 (by decide) ?_
        rw [nI_s]
        exact ih (j + 1) _ _ (by omega) hC (Or.inr ⟨_, rfl⟩)
      · skip
        refine R_iload9 (pc := 308) dL_isAll_308 ?_
        refine R_aload_n0 (pc := 310) dL_isAll_310 ?_
        refine R_iconst (pc := 311) (v := 5) dL_isAll_311 (by decide) ?_
        refine R_callV1 (pc := 312) (T := TX9) cal_X9_count kw339 kw340 kw341 dL_isAll_312 (c_X9_count hC) (by decide) (Nat.le_of_ble_eq_true rfl) (ci := 7) rfl hC.self ?_
        rintro _ _ ⟨rfl, hC, -⟩
        rw [h.c5]
        refine R_icmp_ge (pc := 315) 415 dL_isAll_315 (by decide) (fun c_315 => absurd c_315 (nI_ge hlt (by omega))) (fun c_315 => ?_)
        refine R_iload_n2 (pc := 318) dL_isAll_318 ?_
        refine R_if_eq (pc := 319) 415 dL_isAll_319 (by decide) (fun c0 => False.elim (by revert c0; decide)) (fun _ => ?_)
        refine R_iload8 (pc := 322) dL_isAll_322 ?_
        refine R_iload9 (pc := 324) dL_isAll_324 ?_
        refine R_ishr (pc := 326) dL_isAll_326 ?_
        refine R_iconst (pc := 327) (v := 1) dL_isAll_327 (by decide) ?_
        refine R_iand (pc := 328) dL_isAll_328 ?_
        refine R_iconst (pc := 329) (v := 1) dL_isAll_329 (by decide) ?_
        refine R_icmp_ne (pc := 330) 337 dL_isAll_330 (by decide) (fun c_330 => absurd hb c_330) (fun c_330 => ?_)
        refine R_iconst (pc := 333) (v := 1) dL_isAll_333 (by decide) ?_
        refine R_goto (pc := 334) 338 dL_isAll_334 (by decide) ?_
        refine R_istore10 (pc := 338) dL_isAll_338 rfl (by decide) ?_
        refine R_iload4 (pc := 340) dL_isAll_340 ?_
        refine R_iload9 (pc := 342) dL_isAll_342 ?_
        refine R_icmp_ne (pc := 344) 360 dL_isAll_344 (by decide) (fun c_344 => ?_) (fun c_344 => absurd c_344 hne)
        refine R_iload10 (pc := 360) dL_isAll_360 ?_
        refine R_aload_n0 (pc := 362) dL_isAll_362 ?_
        refine R_iload4 (pc := 363) dL_isAll_363 ?_
        refine R_iload7 (pc := 365) dL_isAll_365 ?_
        refine R_iload9 (pc := 367) dL_isAll_367 ?_
        refine R_callV3 (pc := 369) (T := TX9) cal_X9_hits kw571 kw572 kw573 dL_isAll_369 (c_X9_hits hC) (by decide) (Nat.le_of_ble_eq_true rfl) (ci := 7) rfl hC.self ?_
        rintro _ _ ⟨rfl, hC, -⟩
        rw [eq]
        refine R_if_lt (pc := 372) 379 dL_isAll_372 (by decide) (fun c_372 => absurd c_372 (nI_pos (by omega))) (fun c_372 => ?_)
        refine R_iconst (pc := 375) (v := 1) dL_isAll_375 (by decide) ?_
        refine R_goto (pc := 376) 380 dL_isAll_376 (by decide) ?_
        refine R_icmp_ne (pc := 380) 407 dL_isAll_380 (by decide) (fun c0 => False.elim (by revert c0; decide)) (fun _ => ?_)
        refine R_iload10 (pc := 383) dL_isAll_383 ?_
        refine R_if_eq (pc := 385) 403 dL_isAll_385 (by decide) (fun c0 => False.elim (by revert c0; decide)) (fun _ => ?_)
        refine R_aload_n0 (pc := 388) dL_isAll_388 ?_
        refine R_iload9 (pc := 389) dL_isAll_389 ?_
        refine R_callV1 (pc := 391) (T := TX9) cal_X9_threats kw560 kw561 kw562 dL_isAll_391 (c_X9_threats hC) (by decide) (Nat.le_of_ble_eq_true rfl) (ci := 7) rfl hC.self ?_
        rintro _ _ ⟨rfl, hC, -⟩
        rw [h.thv hlt]
        refine R_iload4 (pc := 394) dL_isAll_394 ?_
        refine R_ishr (pc := 396) dL_isAll_396 ?_
        refine R_iconst (pc := 397) (v := 1) dL_isAll_397 (by decide) ?_
        refine R_iand (pc := 398) dL_isAll_398 ?_
        refine R_iconst (pc := 399) (v := 1) dL_isAll_399 (by decide) ?_
        refine R_icmp_ne (pc := 400) 407 dL_isAll_400 (by decide) (fun c_400 => absurd hth c_400) (fun c_400 => ?_)
        refine R_iconst (pc := 403) (v := 1) dL_isAll_403 (by decide) ?_
        refine R_goto (pc := 404) 408 dL_isAll_404 (by decide) ?_
        refine R_istore_n2 (pc := 408) dL_isAll_408 rfl (by decide) ?_
        refine R_iinc9 (pc := 409) dL_isAll_409 rfl (by decide) ?_
        refine R_goto (pc := 412) 308 dL_isAll_412 (by decide) ?_
        rw [nI_s]
        exact ih (j + 1) _ _ (by omega) hC (Or.inr ⟨_, rfl⟩)
    · have hb : ¬ nI (mb (tgb C.1.1 i (nI s)) 8) >>> (nI j &&& 31) &&& 1 = 1 := by rw [shr_mb _ (by omega), if_neg ht]; decide
      by_cases hij : i = j
      · rcases hx with rfl | ⟨z10, rfl⟩
        · skip
          refine R_iload9 (pc := 308) dL_isAll_308 ?_
          refine R_aload_n0 (pc := 310) dL_isAll_310 ?_
          refine R_iconst (pc := 311) (v := 5) dL_isAll_311 (by decide) ?_
          refine R_callV1 (pc := 312) (T := TX9) cal_X9_count kw339 kw340 kw341 dL_isAll_312 (c_X9_count hC) (by decide) (Nat.le_of_ble_eq_true rfl) (ci := 7) rfl hC.self ?_
          rintro _ _ ⟨rfl, hC, -⟩
          rw [h.c5]
          refine R_icmp_ge (pc := 315) 415 dL_isAll_315 (by decide) (fun c_315 => absurd c_315 (nI_ge hlt (by omega))) (fun c_315 => ?_)
          refine R_iload_n2 (pc := 318) dL_isAll_318 ?_
          refine R_if_eq (pc := 319) 415 dL_isAll_319 (by decide) (fun c0 => False.elim (by revert c0; decide)) (fun _ => ?_)
          refine R_iload8 (pc := 322) dL_isAll_322 ?_
          refine R_iload9 (pc := 324) dL_isAll_324 ?_
          refine R_ishr (pc := 326) dL_isAll_326 ?_
          refine R_iconst (pc := 327) (v := 1) dL_isAll_327 (by decide) ?_
          refine R_iand (pc := 328) dL_isAll_328 ?_
          refine R_iconst (pc := 329) (v := 1) dL_isAll_329 (by decide) ?_
          refine R_icmp_ne (pc := 330) 337 dL_isAll_330 (by decide) (fun c_330 => ?_) (fun c_330 => absurd c_330 hb)
          refine R_iconst (pc := 337) (v := 0) dL_isAll_337 (by decide) ?_
          refine R_istore10 (pc := 338) dL_isAll_338 rfl (by decide) ?_
          refine R_iload4 (pc := 340) dL_isAll_340 ?_
          refine R_iload9 (pc := 342) dL_isAll_342 ?_
          refine R_icmp_ne (pc := 344) 360 dL_isAll_344 (by decide) (fun c_344 => absurd (congrArg nI hij) c_344) (fun c_344 => ?_)
          refine R_iload10 (pc := 347) dL_isAll_347 ?_
          refine R_if_ne (pc := 349) 356 dL_isAll_349 (by decide) (fun c0 => False.elim (by revert c0; decide)) (fun _ => ?_)
          refine R_iconst (pc := 352) (v := 1) dL_isAll_352 (by decide) ?_
          refine R_goto (pc := 353) 408 dL_isAll_353 (by decide) ?_
          refine R_istore_n2 (pc := 408) dL_isAll_408 rfl (by decide) ?_
          refine R_iinc9 (pc := 409) dL_isAll_409 rfl (by decide) ?_
          refine R_goto (pc := 412) 308 dL_isAll_412 (by decide) ?_
          rw [nI_s]
          exact ih (j + 1) _ _ (by omega) hC (Or.inr ⟨_, rfl⟩)
        · skip
          refine R_iload9 (pc := 308) dL_isAll_308 ?_
          refine R_aload_n0 (pc := 310) dL_isAll_310 ?_
          refine R_iconst (pc := 311) (v := 5) dL_isAll_311 (by decide) ?_
          refine R_callV1 (pc := 312) (T := TX9) cal_X9_count kw339 kw340 kw341 dL_isAll_312 (c_X9_count hC) (by decide) (Nat.le_of_ble_eq_true rfl) (ci := 7) rfl hC.self ?_
          rintro _ _ ⟨rfl, hC, -⟩
          rw [h.c5]
          refine R_icmp_ge (pc := 315) 415 dL_isAll_315 (by decide) (fun c_315 => absurd c_315 (nI_ge hlt (by omega))) (fun c_315 => ?_)
          refine R_iload_n2 (pc := 318) dL_isAll_318 ?_
          refine R_if_eq (pc := 319) 415 dL_isAll_319 (by decide) (fun c0 => False.elim (by revert c0; decide)) (fun _ => ?_)
          refine R_iload8 (pc := 322) dL_isAll_322 ?_
          refine R_iload9 (pc := 324) dL_isAll_324 ?_
          refine R_ishr (pc := 326) dL_isAll_326 ?_
          refine R_iconst (pc := 327) (v := 1) dL_isAll_327 (by decide) ?_
          refine R_iand (pc := 328) dL_isAll_328 ?_
          refine R_iconst (pc := 329) (v := 1) dL_isAll_329 (by decide) ?_
          refine R_icmp_ne (pc := 330) 337 dL_isAll_330 (by decide) (fun c_330 => ?_) (fun c_330 => absurd c_330 hb)
          refine R_iconst (pc := 337) (v := 0) dL_isAll_337 (by decide) ?_
          refine R_istore10 (pc := 338) dL_isAll_338 rfl (by decide) ?_
          refine R_iload4 (pc := 340) dL_isAll_340 ?_
          refine R_iload9 (pc := 342) dL_isAll_342 ?_
          refine R_icmp_ne (pc := 344) 360 dL_isAll_344 (by decide) (fun c_344 => absurd (congrArg nI hij) c_344) (fun c_344 => ?_)
          refine R_iload10 (pc := 347) dL_isAll_347 ?_
          refine R_if_ne (pc := 349) 356 dL_isAll_349 (by decide) (fun c0 => False.elim (by revert c0; decide)) (fun _ => ?_)
          refine R_iconst (pc := 352) (v := 1) dL_isAll_352 (by decide) ?_
          refine R_goto (pc := 353) 408 dL_isAll_353 (by decide) ?_
          refine R_istore_n2 (pc := 408) dL_isAll_408 rfl (by decide) ?_
          refine R_iinc9 (pc := 409) dL_isAll_409 rfl (by decide) ?_
          refine R_goto (pc := 412) 308 dL_isAll_412 (by decide) ?_
          rw [nI_s]
          exact ih (j + 1) _ _ (by omega) hC (Or.inr ⟨_, rfl⟩)
      · have hne : ¬ nI i = nI j := nIne (by omega) (by omega) hij
        rcases hx with rfl | ⟨z10, rfl⟩
        · skip
          refine R_iload9 (pc := 308) dL_isAll_308 ?_
          refine R_aload_n0 (pc := 310) dL_isAll_310 ?_
          refine R_iconst (pc := 311) (v := 5) dL_isAll_311 (by decide) ?_
          refine R_callV1 (pc := 312) (T := TX9) cal_X9_count kw339 kw340 kw341 dL_isAll_312 (c_X9_count hC) (by decide) (Nat.le_of_ble_eq_true rfl) (ci := 7) rfl hC.self ?_
          rintro _ _ ⟨rfl, hC, -⟩
          rw [h.c5]
          refine R_icmp_ge (pc := 315) 415 dL_isAll_315 (by decide) (fun c_315 => absurd c_315 (nI_ge hlt (by omega))) (fun c_315 => ?_)
          refine R_iload_n2 (pc := 318) dL_isAll_318 ?_
          refine R_if_eq (pc := 319) 415 dL_isAll_319 (by decide) (fun c0 => False.elim (by revert c0; decide)) (fun _ => ?_)
          refine R_iload8 (pc := 322) dL_isAll_322 ?_
          refine R_iload9 (pc := 324) dL_isAll_324 ?_
          refine R_ishr (pc := 326) dL_isAll_326 ?_
          refine R_iconst (pc := 327) (v := 1) dL_isAll_327 (by decide) ?_
          refine R_iand (pc := 328) dL_isAll_328 ?_
          refine R_iconst (pc := 329) (v := 1) dL_isAll_329 (by decide) ?_
          refine R_icmp_ne (pc := 330) 337 dL_isAll_330 (by decide) (fun c_330 => ?_) (fun c_330 => absurd c_330 hb)
          refine R_iconst (pc := 337) (v := 0) dL_isAll_337 (by decide) ?_
          refine R_istore10 (pc := 338) dL_isAll_338 rfl (by decide) ?_
          refine R_iload4 (pc := 340) dL_isAll_340 ?_
          refine R_iload9 (pc := 342) dL_isAll_342 ?_
          refine R_icmp_ne (pc := 344) 360 dL_isAll_344 (by decide) (fun c_344 => ?_) (fun c_344 => absurd c_344 hne)
          refine R_iload10 (pc := 360) dL_isAll_360 ?_
          refine R_aload_n0 (pc := 362) dL_isAll_362 ?_
          refine R_iload4 (pc := 363) dL_isAll_363 ?_
          refine R_iload7 (pc := 365) dL_isAll_365 ?_
          refine R_iload9 (pc := 367) dL_isAll_367 ?_
          refine R_callV3 (pc := 369) (T := TX9) cal_X9_hits kw571 kw572 kw573 dL_isAll_369 (c_X9_hits hC) (by decide) (Nat.le_of_ble_eq_true rfl) (ci := 7) rfl hC.self ?_
          rintro _ _ ⟨rfl, hC, -⟩
          rw [h.hit_f hi hlt hij (sd01 hs) ht]
          refine R_if_lt (pc := 372) 379 dL_isAll_372 (by decide) (fun c_372 => ?_) (fun c_372 => absurd (by decide) c_372)
          refine R_iconst (pc := 379) (v := 0) dL_isAll_379 (by decide) ?_
          refine R_icmp_ne (pc := 380) 407 dL_isAll_380 (by decide) (fun c0 => False.elim (by revert c0; decide)) (fun _ => ?_)
          refine R_iload10 (pc := 383) dL_isAll_383 ?_
          refine R_if_eq (pc := 385) 403 dL_isAll_385 (by decide) (fun _ => ?_) (fun c0 => False.elim (by revert c0; decide))
          refine R_iconst (pc := 403) (v := 1) dL_isAll_403 (by decide) ?_
          refine R_goto (pc := 404) 408 dL_isAll_404 (by decide) ?_
          refine R_istore_n2 (pc := 408) dL_isAll_408 rfl (by decide) ?_
          refine R_iinc9 (pc := 409) dL_isAll_409 rfl (by decide) ?_
          refine R_goto (pc := 412) 308 dL_isAll_412 (by decide) ?_
          rw [nI_s]
          exact ih (j + 1) _ _ (by omega) hC (Or.inr ⟨_, rfl⟩)
        · skip
          refine R_iload9 (pc := 308) dL_isAll_308 ?_
          refine R_aload_n0 (pc := 310) dL_isAll_310 ?_
          refine R_iconst (pc := 311) (v := 5) dL_isAll_311 (by decide) ?_
          refine R_callV1 (pc := 312) (T := TX9) cal_X9_count kw339 kw340 kw341 dL_isAll_312 (c_X9_count hC) (by decide) (Nat.le_of_ble_eq_true rfl) (ci := 7) rfl hC.self ?_
          rintro _ _ ⟨rfl, hC, -⟩
          rw [h.c5]
          refine R_icmp_ge (pc := 315) 415 dL_isAll_315 (by decide) (fun c_315 => absurd c_315 (nI_ge hlt (by omega))) (fun c_315 => ?_)
          refine R_iload_n2 (pc := 318) dL_isAll_318 ?_
          refine R_if_eq (pc := 319) 415 dL_isAll_319 (by decide) (fun c0 => False.elim (by revert c0; decide)) (fun _ => ?_)
          refine R_iload8 (pc := 322) dL_isAll_322 ?_
          refine R_iload9 (pc := 324) dL_isAll_324 ?_
          refine R_ishr (pc := 326) dL_isAll_326 ?_
          refine R_iconst (pc := 327) (v := 1) dL_isAll_327 (by decide) ?_
          refine R_iand (pc := 328) dL_isAll_328 ?_
          refine R_iconst (pc := 329) (v := 1) dL_isAll_329 (by decide) ?_
          refine R_icmp_ne (pc := 330) 337 dL_isAll_330 (by decide) (fun c_330 => ?_) (fun c_330 => absurd c_330 hb)
          refine R_iconst (pc := 337) (v := 0) dL_isAll_337 (by decide) ?_
          refine R_istore10 (pc := 338) dL_isAll_338 rfl (by decide) ?_
          refine R_iload4 (pc := 340) dL_isAll_340 ?_
          refine R_iload9 (pc := 342) dL_isAll_342 ?_
          refine R_icmp_ne (pc := 344) 360 dL_isAll_344 (by decide) (fun c_344 => ?_) (fun c_344 => absurd c_344 hne)
          refine R_iload10 (pc := 360) dL_isAll_360 ?_
          refine R_aload_n0 (pc := 362) dL_isAll_362 ?_
          refine R_iload4 (pc := 363) dL_isAll_363 ?_
          refine R_iload7 (pc := 365) dL_isAll_365 ?_
          refine R_iload9 (pc := 367) dL_isAll_367 ?_
          refine R_callV3 (pc := 369) (T := TX9) cal_X9_hits kw571 kw572 kw573 dL_isAll_369 (c_X9_hits hC) (by decide) (Nat.le_of_ble_eq_true rfl) (ci := 7) rfl hC.self ?_
          rintro _ _ ⟨rfl, hC, -⟩
          rw [h.hit_f hi hlt hij (sd01 hs) ht]
          refine R_if_lt (pc := 372) 379 dL_isAll_372 (by decide) (fun c_372 => ?_) (fun c_372 => absurd (by decide) c_372)
          refine R_iconst (pc := 379) (v := 0) dL_isAll_379 (by decide) ?_
          refine R_icmp_ne (pc := 380) 407 dL_isAll_380 (by decide) (fun c0 => False.elim (by revert c0; decide)) (fun _ => ?_)
          refine R_iload10 (pc := 383) dL_isAll_383 ?_
          refine R_if_eq (pc := 385) 403 dL_isAll_385 (by decide) (fun _ => ?_) (fun c0 => False.elim (by revert c0; decide))
          refine R_iconst (pc := 403) (v := 1) dL_isAll_403 (by decide) ?_
          refine R_goto (pc := 404) 408 dL_isAll_404 (by decide) ?_
          refine R_istore_n2 (pc := 408) dL_isAll_408 rfl (by decide) ?_
          refine R_iinc9 (pc := 409) dL_isAll_409 rfl (by decide) ?_
          refine R_goto (pc := 412) 308 dL_isAll_412 (by decide) ?_
          rw [nI_s]
          exact ih (j + 1) _ _ (by omega) hC (Or.inr ⟨_, rfl⟩)

set_option maxHeartbeats 4000000 in
set_option maxRecDepth 100000 in
theorem LA_s (h : Inv sn T C.1.1) {i : Nat} {H : Int32} (hi : i < sn) (K : ∀ hh, CAt hh w C → RunM l D cA N0 m_L_isAll 7 0 0 (fun r h' => r = some (.int 1) ∧ CAt h' w C) hh 0 0 421 [some (.ref w), some (.int (nI (mb (fla C.1.1) 8))), some (.int 1), some (.int (H)), some (.int (nI i)), none, none, none, none, none, none] []) : ∀ (n s : Nat) (hh : AH), s + n = 2 → CAt hh w C → RunM l D cA N0 m_L_isAll 7 0 0 (fun r h' => r = some (.int 1) ∧ CAt h' w C) hh 0 0 261 [some (.ref w), some (.int (nI (mb (fla C.1.1) 8))), some (.int 1), some (.int (H)), some (.int (nI i)), none, none, some (.int (nI s)), none, none, none] [] := by
  have hn := h.n
  have hx10 : (none : Option Value) = none ∨ ∃ z, (none : Option Value) = some (.int z) := Or.inl rfl
  intro n
  induction n with
  | zero =>
    intro s hh hsn hC
    have hse : s = 2 := by omega
    subst hse
    refine R_iload7 (pc := 261) dL_isAll_261 ?_
    refine R_iconst (pc := 263) (v := 2) dL_isAll_263 (by decide) ?_
    refine R_icmp_ge (pc := 264) 421 dL_isAll_264 (by decide) (fun c_264 => ?_) (fun c_264 => absurd (by decide) c_264)
    exact R_weak (L2 := [some (.ref w), some (.int (nI (mb (fla C.1.1) 8))), some (.int 1), some (.int (H)), some (.int (nI i)), none, none, none, none, none, none]) (by repeat (first | exact trivial | refine ⟨rfl, ?_⟩ | refine ⟨trivial, ?_⟩)) (K _ hC)
  | succ n ih =>
    intro s hh hsn hC
    have hlt : s < 2 := by omega
    have hpc : ¬ 2 < nI (pcn (mb (tgb C.1.1 i (nI s)) 8) 8) := by
      have := tg_two C.1.1 i (nI s)
      rw [show (2 : Int32) = nI 2 from rfl, nI_ltI (by decide) (by omega)]
      omega
    refine R_iload7 (pc := 261) dL_isAll_261 ?_
    refine R_iconst (pc := 263) (v := 2) dL_isAll_263 (by decide) ?_
    refine R_icmp_ge (pc := 264) 421 dL_isAll_264 (by decide) (fun c_264 => absurd c_264 (nI_ge hlt (by decide))) (fun c_264 => ?_)
    refine R_iload_n2 (pc := 267) dL_isAll_267 ?_
    refine R_if_eq (pc := 268) 421 dL_isAll_268 (by decide) (fun c0 => False.elim (by revert c0; decide)) (fun _ => ?_)
    refine R_aload_n0 (pc := 271) dL_isAll_271 ?_
    refine R_iload4 (pc := 272) dL_isAll_272 ?_
    refine R_iload7 (pc := 274) dL_isAll_274 ?_
    refine R_callV2 (pc := 276) (T := TX9) cal_X9_targets kw490 kw491 kw492 dL_isAll_276 (c_X9_targets hC) (by decide) (Nat.le_of_ble_eq_true rfl) (ci := 7) rfl hC.self ?_
    rintro _ _ ⟨rfl, hC, -⟩
    rw [h.tgv hi (sd01 hlt)]
    refine R_istore8 (pc := 279) dL_isAll_279 rfl (by decide) ?_
    refine R_iload8 (pc := 281) dL_isAll_281 ?_
    refine R_callS1 (pc := 283) cal_L_ones kw568 kw569 dL_isAll_283 (c_L_ones (mb_lt _ 8)) (by decide) (Nat.le_of_ble_eq_true rfl) ?_
    rintro _ _ ⟨rfl, rfl⟩
    refine R_iconst (pc := 286) (v := 2) dL_isAll_286 (by decide) ?_
    refine R_icmp_gt (pc := 287) 303 dL_isAll_287 (by decide) (fun c_287 => absurd c_287 hpc) (fun c_287 => ?_)
    refine R_iload8 (pc := 290) dL_isAll_290 ?_
    refine R_iload_n1 (pc := 292) dL_isAll_292 ?_
    refine R_iconst (pc := 293) (v := (-1)) dL_isAll_293 (by decide) ?_
    refine R_ixor (pc := 294) dL_isAll_294 ?_
    refine R_iand (pc := 295) dL_isAll_295 ?_
    refine R_if_ne (pc := 296) 303 dL_isAll_296 (by decide) (fun c_296 => absurd (h.tg_fl i (nI s)) c_296) (fun c_296 => ?_)
    refine R_iconst (pc := 299) (v := 1) dL_isAll_299 (by decide) ?_
    refine R_goto (pc := 300) 304 dL_isAll_300 (by decide) ?_
    refine R_istore_n2 (pc := 304) dL_isAll_304 rfl (by decide) ?_
    refine R_iconst (pc := 305) (v := 0) dL_isAll_305 (by decide) ?_
    refine R_istore9 (pc := 306) dL_isAll_306 rfl (by decide) ?_
    refine LA_j h hi hlt (fun hh x10 hC => ?_) sn 0 _ _ (by omega) hC hx10
    refine R_weak (L2 := [some (.ref w), some (.int (nI (mb (fla C.1.1) 8))), some (.int 1), some (.int (H)), some (.int (nI i)), none, none, some (.int (nI s)), none, none, none]) (by repeat (first | exact trivial | refine ⟨rfl, ?_⟩ | refine ⟨trivial, ?_⟩)) ?_
    refine R_iinc7 (pc := 415) dL_isAll_415 rfl (by decide) ?_
    refine R_goto (pc := 418) 261 dL_isAll_418 (by decide) ?_
    rw [nI_s]
    exact ih (s + 1) _ (by omega) hC

set_option maxHeartbeats 4000000 in
set_option maxRecDepth 100000 in
theorem LA_i (h : Inv sn T C.1.1) : ∀ (n i : Nat) (hh : AH), i + n = sn → CAt hh w C → RunM l D cA N0 m_L_isAll 7 0 0 (fun r h' => r = some (.int 1) ∧ CAt h' w C) hh 0 0 51 [some (.ref w), some (.int (nI (mb (fla C.1.1) 8))), some (.int 1), some (.int (nI (sm (hg C.1.1) i))), some (.int (nI i)), none, none, none, none, none, none] [] := by
  have hn := h.n
  intro n
  induction n with
  | zero =>
    intro i hh hin hC
    have hie : i = sn := by omega
    rw [hie]
    refine R_iload4 (pc := 51) dL_isAll_51 ?_
    refine R_aload_n0 (pc := 53) dL_isAll_53 ?_
    refine R_iconst (pc := 54) (v := 5) dL_isAll_54 (by decide) ?_
    refine R_callV1 (pc := 55) (T := TX9) cal_X9_count kw339 kw340 kw341 dL_isAll_55 (c_X9_count hC) (by decide) (Nat.le_of_ble_eq_true rfl) (ci := 7) rfl hC.self ?_
    rintro _ _ ⟨rfl, hC, -⟩
    rw [h.c5]
    refine R_icmp_ge (pc := 58) 427 dL_isAll_58 (by decide) (fun c_58 => ?_) (fun c_58 => absurd (Int32.le_refl _) c_58)
    refine R_iload_n2 (pc := 427) dL_isAll_427 ?_
    refine R_if_eq (pc := 428) 486 dL_isAll_428 (by decide) (fun c0 => False.elim (by revert c0; decide)) (fun _ => ?_)
    refine R_iload_n3 (pc := 431) dL_isAll_431 ?_
    refine R_aload_n0 (pc := 432) dL_isAll_432 ?_
    refine R_iconst (pc := 433) (v := 0) dL_isAll_433 (by decide) ?_
    refine R_iconst (pc := 434) (v := 4) dL_isAll_434 (by decide) ?_
    refine R_callV2 (pc := 435) (T := TX9) cal_X9_captain kw474 kw475 kw476 dL_isAll_435 (c_X9_captain hC) (by decide) (Nat.le_of_ble_eq_true rfl) (ci := 7) rfl hC.self ?_
    rintro _ _ ⟨rfl, hC, -⟩
    refine R_aload_n0 (pc := 438) dL_isAll_438 ?_
    refine R_iconst (pc := 439) (v := 1) dL_isAll_439 (by decide) ?_
    refine R_iconst (pc := 440) (v := 4) dL_isAll_440 (by decide) ?_
    refine R_callV2 (pc := 441) (T := TX9) cal_X9_captain kw474 kw475 kw476 dL_isAll_441 (c_X9_captain hC) (by decide) (Nat.le_of_ble_eq_true rfl) (ci := 7) rfl hC.self ?_
    rintro _ _ ⟨rfl, hC, -⟩
    refine R_iadd (pc := 444) dL_isAll_444 ?_
    refine R_icmp_ne (pc := 445) 486 dL_isAll_445 (by decide) (fun c_445 => absurd h.cp4.symm c_445) (fun c_445 => ?_)
    refine R_aload_n0 (pc := 448) dL_isAll_448 ?_
    refine R_iconst (pc := 449) (v := 0) dL_isAll_449 (by decide) ?_
    refine R_callV1 (pc := 450) (T := TX9) cal_X9_strength kw377 kw378 kw379 dL_isAll_450 (c_X9_strength hC) (by decide) (Nat.le_of_ble_eq_true rfl) (ci := 7) rfl hC.self ?_
    rintro _ _ ⟨rfl, hC, -⟩
    refine R_aload_n0 (pc := 453) dL_isAll_453 ?_
    refine R_iconst (pc := 454) (v := 0) dL_isAll_454 (by decide) ?_
    refine R_iconst (pc := 455) (v := 4) dL_isAll_455 (by decide) ?_
    refine R_callV2 (pc := 456) (T := TX9) cal_X9_captain kw474 kw475 kw476 dL_isAll_456 (c_X9_captain hC) (by decide) (Nat.le_of_ble_eq_true rfl) (ci := 7) rfl hC.self ?_
    rintro _ _ ⟨rfl, hC, -⟩
    refine R_iconst (pc := 459) (v := 2) dL_isAll_459 (by decide) ?_
    refine R_idiv (pc := 460) dL_isAll_460 (by decide) ?_
    refine R_icmp_lt (pc := 461) 486 dL_isAll_461 (by decide) (fun c_461 => absurd c_461 h.str4) (fun c_461 => ?_)
    refine R_aload_n0 (pc := 464) dL_isAll_464 ?_
    refine R_iconst (pc := 465) (v := 0) dL_isAll_465 (by decide) ?_
    refine R_iconst (pc := 466) (v := 0) dL_isAll_466 (by decide) ?_
    refine R_callV2 (pc := 467) (T := TX9) cal_X9_captain kw474 kw475 kw476 dL_isAll_467 (c_X9_captain hC) (by decide) (Nat.le_of_ble_eq_true rfl) (ci := 7) rfl hC.self ?_
    rintro _ _ ⟨rfl, hC, -⟩
    refine R_if_le (pc := 470) 486 dL_isAll_470 (by decide) (fun c_470 => absurd c_470 h.cp0) (fun c_470 => ?_)
    refine R_aload_n0 (pc := 473) dL_isAll_473 ?_
    refine R_iconst (pc := 474) (v := 1) dL_isAll_474 (by decide) ?_
    refine R_iconst (pc := 475) (v := 0) dL_isAll_475 (by decide) ?_
    refine R_callV2 (pc := 476) (T := TX9) cal_X9_captain kw474 kw475 kw476 dL_isAll_476 (c_X9_captain hC) (by decide) (Nat.le_of_ble_eq_true rfl) (ci := 7) rfl hC.self ?_
    rintro _ _ ⟨rfl, hC, -⟩
    refine R_if_le (pc := 479) 486 dL_isAll_479 (by decide) (fun c_479 => absurd c_479 h.cp1) (fun c_479 => ?_)
    refine R_iconst (pc := 482) (v := 1) dL_isAll_482 (by decide) ?_
    refine R_goto (pc := 483) 487 dL_isAll_483 (by decide) ?_
    refine R_iret (pc := 487) rfl rfl dL_isAll_487 ?_
    exact ⟨rfl, hC⟩
  | succ n ih =>
    intro i hh hin hC
    have hlt : i < sn := by omega
    have hi8 : i < 8 := by omega
    by_cases hf : shF C.1.1 i 4 = 0
    · have hb : ¬ nI (mb (fla C.1.1) 8) >>> (nI i &&& 31) &&& 1 = 1 := by rw [shr_mb _ hi8, if_neg (show ¬ fla C.1.1 i = true from fun z => (of_decide_eq_true z : ¬ shF C.1.1 i 4 = 0) hf)]; decide
      have hsum : nI (sm (hg C.1.1) i) + 0 = nI (sm (hg C.1.1) (i + 1)) := by
        rw [show (0 : Int32) = nI 0 from rfl, nI_add, sm_s]
        exact congrArg (fun z => nI (sm (hg C.1.1) i + z)) (((h.s4 hi8).z (by decide)).mp hf).symm
      refine R_iload4 (pc := 51) dL_isAll_51 ?_
      refine R_aload_n0 (pc := 53) dL_isAll_53 ?_
      refine R_iconst (pc := 54) (v := 5) dL_isAll_54 (by decide) ?_
      refine R_callV1 (pc := 55) (T := TX9) cal_X9_count kw339 kw340 kw341 dL_isAll_55 (c_X9_count hC) (by decide) (Nat.le_of_ble_eq_true rfl) (ci := 7) rfl hC.self ?_
      rintro _ _ ⟨rfl, hC, -⟩
      rw [h.c5]
      refine R_icmp_ge (pc := 58) 427 dL_isAll_58 (by decide) (fun c_58 => absurd c_58 (nI_ge hlt (by omega))) (fun c_58 => ?_)
      refine R_iload_n2 (pc := 61) dL_isAll_61 ?_
      refine R_if_eq (pc := 62) 427 dL_isAll_62 (by decide) (fun c0 => False.elim (by revert c0; decide)) (fun _ => ?_)
      refine R_iload_n1 (pc := 65) dL_isAll_65 ?_
      refine R_iload4 (pc := 66) dL_isAll_66 ?_
      refine R_ishr (pc := 68) dL_isAll_68 ?_
      refine R_iconst (pc := 69) (v := 1) dL_isAll_69 (by decide) ?_
      refine R_iand (pc := 70) dL_isAll_70 ?_
      refine R_iconst (pc := 71) (v := 1) dL_isAll_71 (by decide) ?_
      refine R_icmp_ne (pc := 72) 79 dL_isAll_72 (by decide) (fun c_72 => ?_) (fun c_72 => absurd c_72 hb)
      refine R_iconst (pc := 79) (v := 0) dL_isAll_79 (by decide) ?_
      refine R_istore5 (pc := 80) dL_isAll_80 rfl (by decide) ?_
      refine R_aload_n0 (pc := 82) dL_isAll_82 ?_
      refine R_iload4 (pc := 83) dL_isAll_83 ?_
      refine R_bipush (pc := 85) (v := 7) dL_isAll_85 (by decide) ?_
      refine R_callV2 (pc := 87) (T := TX9) cal_X9_ship kw440 kw441 kw442 dL_isAll_87 (c_X9_ship hC) (by decide) (Nat.le_of_ble_eq_true rfl) (ci := 7) rfl hC.self ?_
      rintro _ _ ⟨rfl, hC, -⟩
      rw [h.sh7 hlt]
      refine R_istore6 (pc := 90) dL_isAll_90 rfl (by decide) ?_
      refine R_iload_n3 (pc := 92) dL_isAll_92 ?_
      refine R_iload5 (pc := 93) dL_isAll_93 ?_
      refine R_if_eq (pc := 95) 108 dL_isAll_95 (by decide) (fun _ => ?_) (fun c0 => False.elim (by revert c0; decide))
      refine R_iconst (pc := 108) (v := 0) dL_isAll_108 (by decide) ?_
      refine R_iadd (pc := 109) dL_isAll_109 ?_
      rw [hsum]
      refine R_istore_n3 (pc := 110) dL_isAll_110 rfl (by decide) ?_
      refine R_iload5 (pc := 111) dL_isAll_111 ?_
      refine R_aload_n0 (pc := 113) dL_isAll_113 ?_
      refine R_iload4 (pc := 114) dL_isAll_114 ?_
      refine R_iconst (pc := 116) (v := 1) dL_isAll_116 (by decide) ?_
      refine R_callV2 (pc := 117) (T := TX9) cal_X9_ship kw440 kw441 kw442 dL_isAll_117 (c_X9_ship hC) (by decide) (Nat.le_of_ble_eq_true rfl) (ci := 7) rfl hC.self ?_
      rintro _ _ ⟨rfl, hC, -⟩
      rw [h.sh1s hlt hf]
      refine R_if_lt (pc := 120) 127 dL_isAll_120 (by decide) (fun c_120 => ?_) (fun c_120 => absurd (by decide) c_120)
      refine R_iconst (pc := 127) (v := 0) dL_isAll_127 (by decide) ?_
      refine R_icmp_ne (pc := 128) 213 dL_isAll_128 (by decide) (fun c0 => False.elim (by revert c0; decide)) (fun _ => ?_)
      refine R_iload5 (pc := 131) dL_isAll_131 ?_
      refine R_aload_n0 (pc := 133) dL_isAll_133 ?_
      refine R_iload4 (pc := 134) dL_isAll_134 ?_
      refine R_iconst (pc := 136) (v := 3) dL_isAll_136 (by decide) ?_
      refine R_callV2 (pc := 137) (T := TX9) cal_X9_ship kw440 kw441 kw442 dL_isAll_137 (c_X9_ship hC) (by decide) (Nat.le_of_ble_eq_true rfl) (ci := 7) rfl hC.self ?_
      rintro _ _ ⟨rfl, hC, -⟩
      rw [h.sh3 hlt, hf]
      refine R_if_le (pc := 140) 147 dL_isAll_140 (by decide) (fun c_140 => ?_) (fun c_140 => absurd (by decide) c_140)
      refine R_iconst (pc := 147) (v := 0) dL_isAll_147 (by decide) ?_
      refine R_icmp_ne (pc := 148) 213 dL_isAll_148 (by decide) (fun c0 => False.elim (by revert c0; decide)) (fun _ => ?_)
      refine R_iload5 (pc := 151) dL_isAll_151 ?_
      refine R_if_eq (pc := 153) 172 dL_isAll_153 (by decide) (fun _ => ?_) (fun c0 => False.elim (by revert c0; decide))
      refine R_iload6 (pc := 172) dL_isAll_172 ?_
      refine R_bipush (pc := 174) (v := (-9)) dL_isAll_174 (by decide) ?_
      refine R_icmp_eq (pc := 176) 209 dL_isAll_176 (by decide) (fun c_176 => ?_) (fun c_176 => ?_)
      · skip
        refine R_iconst (pc := 209) (v := 1) dL_isAll_209 (by decide) ?_
        refine R_goto (pc := 210) 214 dL_isAll_210 (by decide) ?_
        refine R_istore_n2 (pc := 214) dL_isAll_214 rfl (by decide) ?_
        refine R_iload_n2 (pc := 215) dL_isAll_215 ?_
        refine R_if_eq (pc := 216) 256 dL_isAll_216 (by decide) (fun c0 => False.elim (by revert c0; decide)) (fun _ => ?_)
        refine R_iload5 (pc := 219) dL_isAll_219 ?_
        refine R_if_ne (pc := 221) 252 dL_isAll_221 (by decide) (fun c0 => False.elim (by revert c0; decide)) (fun _ => ?_)
        refine R_aload_n0 (pc := 224) dL_isAll_224 ?_
        refine R_iload4 (pc := 225) dL_isAll_225 ?_
        refine R_iconst (pc := 227) (v := 0) dL_isAll_227 (by decide) ?_
        refine R_callV2 (pc := 228) (T := TX9) cal_X9_targets kw490 kw491 kw492 dL_isAll_228 (c_X9_targets hC) (by decide) (Nat.le_of_ble_eq_true rfl) (ci := 7) rfl hC.self ?_
        rintro _ _ ⟨rfl, hC, -⟩
        rw [h.tgs hlt hf]
        refine R_if_ne (pc := 231) 256 dL_isAll_231 (by decide) (fun c_231 => absurd rfl c_231) (fun c_231 => ?_)
        refine R_aload_n0 (pc := 234) dL_isAll_234 ?_
        refine R_iload4 (pc := 235) dL_isAll_235 ?_
        refine R_callV1 (pc := 237) (T := TX9) cal_X9_reach kw520 kw521 kw522 dL_isAll_237 (c_X9_reach hC h.nw h.hd) (by decide) (Nat.le_of_ble_eq_true rfl) (ci := 7) rfl hC.self ?_
        rintro _ _ ⟨⟨Q, rfl⟩, hC, -⟩
        rw [h.reach_s Q hlt hf]
        refine R_if_ne (pc := 240) 256 dL_isAll_240 (by decide) (fun c_240 => absurd rfl c_240) (fun c_240 => ?_)
        refine R_aload_n0 (pc := 243) dL_isAll_243 ?_
        refine R_iload4 (pc := 244) dL_isAll_244 ?_
        refine R_callV1 (pc := 246) (T := TX9) cal_X9_threats kw560 kw561 kw562 dL_isAll_246 (c_X9_threats hC) (by decide) (Nat.le_of_ble_eq_true rfl) (ci := 7) rfl hC.self ?_
        rintro _ _ ⟨rfl, hC, -⟩
        rw [h.ths hlt hf]
        refine R_if_ne (pc := 249) 256 dL_isAll_249 (by decide) (fun c_249 => absurd rfl c_249) (fun c_249 => ?_)
        refine R_iconst (pc := 252) (v := 1) dL_isAll_252 (by decide) ?_
        refine R_goto (pc := 253) 257 dL_isAll_253 (by decide) ?_
        refine R_istore_n2 (pc := 257) dL_isAll_257 rfl (by decide) ?_
        refine R_iconst (pc := 258) (v := 0) dL_isAll_258 (by decide) ?_
        refine R_istore7 (pc := 259) dL_isAll_259 rfl (by decide) ?_
        refine R_weak (L2 := [some (.ref w), some (.int (nI (mb (fla C.1.1) 8))), some (.int 1), some (.int (nI (sm (hg C.1.1) (i + 1)))), some (.int (nI i)), none, none, some (.int (nI 0)), none, none, none]) (by repeat (first | exact trivial | refine ⟨rfl, ?_⟩ | refine ⟨trivial, ?_⟩)) (LA_s h hlt (fun hh hC => ?_) 2 0 _ rfl hC)
        refine R_iinc4 (pc := 421) dL_isAll_421 rfl (by decide) ?_
        refine R_goto (pc := 424) 51 dL_isAll_424 (by decide) ?_
        rw [nI_s]
        exact ih (i + 1) _ (by omega) hC
      · skip
        obtain ⟨j, z1, z2, z3, z4, z5⟩ := (h.pr hi8).resolve_left c_176
        rw [z2]
        refine R_aload_n0 (pc := 179) dL_isAll_179 ?_
        refine R_iload6 (pc := 180) dL_isAll_180 ?_
        refine R_bipush (pc := 182) (v := 7) dL_isAll_182 (by decide) ?_
        refine R_callV2 (pc := 184) (T := TX9) cal_X9_ship kw440 kw441 kw442 dL_isAll_184 (c_X9_ship hC) (by decide) (Nat.le_of_ble_eq_true rfl) (ci := 7) rfl hC.self ?_
        rintro _ _ ⟨rfl, hC, -⟩
        rw [h.sh7 z1, z3]
        refine R_iload4 (pc := 187) dL_isAll_187 ?_
        refine R_icmp_ne (pc := 189) 213 dL_isAll_189 (by decide) (fun c_189 => absurd rfl c_189) (fun c_189 => ?_)
        refine R_aload_n0 (pc := 192) dL_isAll_192 ?_
        refine R_iload6 (pc := 193) dL_isAll_193 ?_
        refine R_iconst (pc := 195) (v := 0) dL_isAll_195 (by decide) ?_
        refine R_callV2 (pc := 196) (T := TX9) cal_X9_ship kw440 kw441 kw442 dL_isAll_196 (c_X9_ship hC) (by decide) (Nat.le_of_ble_eq_true rfl) (ci := 7) rfl hC.self ?_
        rintro _ _ ⟨rfl, hC, -⟩
        rw [h.sh0 z1]
        refine R_aload_n0 (pc := 199) dL_isAll_199 ?_
        refine R_iload4 (pc := 200) dL_isAll_200 ?_
        refine R_iconst (pc := 202) (v := 0) dL_isAll_202 (by decide) ?_
        refine R_callV2 (pc := 203) (T := TX9) cal_X9_ship kw440 kw441 kw442 dL_isAll_203 (c_X9_ship hC) (by decide) (Nat.le_of_ble_eq_true rfl) (ci := 7) rfl hC.self ?_
        rintro _ _ ⟨rfl, hC, -⟩
        rw [h.sh0 hlt]
        refine R_icmp_eq (pc := 206) 213 dL_isAll_206 (by decide) (fun c_206 => absurd c_206 z4) (fun c_206 => ?_)
        refine R_iconst (pc := 209) (v := 1) dL_isAll_209 (by decide) ?_
        refine R_goto (pc := 210) 214 dL_isAll_210 (by decide) ?_
        refine R_istore_n2 (pc := 214) dL_isAll_214 rfl (by decide) ?_
        refine R_iload_n2 (pc := 215) dL_isAll_215 ?_
        refine R_if_eq (pc := 216) 256 dL_isAll_216 (by decide) (fun c0 => False.elim (by revert c0; decide)) (fun _ => ?_)
        refine R_iload5 (pc := 219) dL_isAll_219 ?_
        refine R_if_ne (pc := 221) 252 dL_isAll_221 (by decide) (fun c0 => False.elim (by revert c0; decide)) (fun _ => ?_)
        refine R_aload_n0 (pc := 224) dL_isAll_224 ?_
        refine R_iload4 (pc := 225) dL_isAll_225 ?_
        refine R_iconst (pc := 227) (v := 0) dL_isAll_227 (by decide) ?_
        refine R_callV2 (pc := 228) (T := TX9) cal_X9_targets kw490 kw491 kw492 dL_isAll_228 (c_X9_targets hC) (by decide) (Nat.le_of_ble_eq_true rfl) (ci := 7) rfl hC.self ?_
        rintro _ _ ⟨rfl, hC, -⟩
        rw [h.tgs hlt hf]
        refine R_if_ne (pc := 231) 256 dL_isAll_231 (by decide) (fun c_231 => absurd rfl c_231) (fun c_231 => ?_)
        refine R_aload_n0 (pc := 234) dL_isAll_234 ?_
        refine R_iload4 (pc := 235) dL_isAll_235 ?_
        refine R_callV1 (pc := 237) (T := TX9) cal_X9_reach kw520 kw521 kw522 dL_isAll_237 (c_X9_reach hC h.nw h.hd) (by decide) (Nat.le_of_ble_eq_true rfl) (ci := 7) rfl hC.self ?_
        rintro _ _ ⟨⟨Q, rfl⟩, hC, -⟩
        rw [h.reach_s Q hlt hf]
        refine R_if_ne (pc := 240) 256 dL_isAll_240 (by decide) (fun c_240 => absurd rfl c_240) (fun c_240 => ?_)
        refine R_aload_n0 (pc := 243) dL_isAll_243 ?_
        refine R_iload4 (pc := 244) dL_isAll_244 ?_
        refine R_callV1 (pc := 246) (T := TX9) cal_X9_threats kw560 kw561 kw562 dL_isAll_246 (c_X9_threats hC) (by decide) (Nat.le_of_ble_eq_true rfl) (ci := 7) rfl hC.self ?_
        rintro _ _ ⟨rfl, hC, -⟩
        rw [h.ths hlt hf]
        refine R_if_ne (pc := 249) 256 dL_isAll_249 (by decide) (fun c_249 => absurd rfl c_249) (fun c_249 => ?_)
        refine R_iconst (pc := 252) (v := 1) dL_isAll_252 (by decide) ?_
        refine R_goto (pc := 253) 257 dL_isAll_253 (by decide) ?_
        refine R_istore_n2 (pc := 257) dL_isAll_257 rfl (by decide) ?_
        refine R_iconst (pc := 258) (v := 0) dL_isAll_258 (by decide) ?_
        refine R_istore7 (pc := 259) dL_isAll_259 rfl (by decide) ?_
        refine R_weak (L2 := [some (.ref w), some (.int (nI (mb (fla C.1.1) 8))), some (.int 1), some (.int (nI (sm (hg C.1.1) (i + 1)))), some (.int (nI i)), none, none, some (.int (nI 0)), none, none, none]) (by repeat (first | exact trivial | refine ⟨rfl, ?_⟩ | refine ⟨trivial, ?_⟩)) (LA_s h hlt (fun hh hC => ?_) 2 0 _ rfl hC)
        refine R_iinc4 (pc := 421) dL_isAll_421 rfl (by decide) ?_
        refine R_goto (pc := 424) 51 dL_isAll_424 (by decide) ?_
        rw [nI_s]
        exact ih (i + 1) _ (by omega) hC
    · have hb : nI (mb (fla C.1.1) 8) >>> (nI i &&& 31) &&& 1 = 1 := by rw [shr_mb _ hi8, if_pos (show fla C.1.1 i = true from decide_eq_true hf)]
      have hsum : nI (sm (hg C.1.1) i) + shF C.1.1 i 4 = nI (sm (hg C.1.1) (i + 1)) := by rw [(h.v4 hi8).1, nI_add, sm_s]; rfl
      refine R_iload4 (pc := 51) dL_isAll_51 ?_
      refine R_aload_n0 (pc := 53) dL_isAll_53 ?_
      refine R_iconst (pc := 54) (v := 5) dL_isAll_54 (by decide) ?_
      refine R_callV1 (pc := 55) (T := TX9) cal_X9_count kw339 kw340 kw341 dL_isAll_55 (c_X9_count hC) (by decide) (Nat.le_of_ble_eq_true rfl) (ci := 7) rfl hC.self ?_
      rintro _ _ ⟨rfl, hC, -⟩
      rw [h.c5]
      refine R_icmp_ge (pc := 58) 427 dL_isAll_58 (by decide) (fun c_58 => absurd c_58 (nI_ge hlt (by omega))) (fun c_58 => ?_)
      refine R_iload_n2 (pc := 61) dL_isAll_61 ?_
      refine R_if_eq (pc := 62) 427 dL_isAll_62 (by decide) (fun c0 => False.elim (by revert c0; decide)) (fun _ => ?_)
      refine R_iload_n1 (pc := 65) dL_isAll_65 ?_
      refine R_iload4 (pc := 66) dL_isAll_66 ?_
      refine R_ishr (pc := 68) dL_isAll_68 ?_
      refine R_iconst (pc := 69) (v := 1) dL_isAll_69 (by decide) ?_
      refine R_iand (pc := 70) dL_isAll_70 ?_
      refine R_iconst (pc := 71) (v := 1) dL_isAll_71 (by decide) ?_
      refine R_icmp_ne (pc := 72) 79 dL_isAll_72 (by decide) (fun c_72 => absurd hb c_72) (fun c_72 => ?_)
      refine R_iconst (pc := 75) (v := 1) dL_isAll_75 (by decide) ?_
      refine R_goto (pc := 76) 80 dL_isAll_76 (by decide) ?_
      refine R_istore5 (pc := 80) dL_isAll_80 rfl (by decide) ?_
      refine R_aload_n0 (pc := 82) dL_isAll_82 ?_
      refine R_iload4 (pc := 83) dL_isAll_83 ?_
      refine R_bipush (pc := 85) (v := 7) dL_isAll_85 (by decide) ?_
      refine R_callV2 (pc := 87) (T := TX9) cal_X9_ship kw440 kw441 kw442 dL_isAll_87 (c_X9_ship hC) (by decide) (Nat.le_of_ble_eq_true rfl) (ci := 7) rfl hC.self ?_
      rintro _ _ ⟨rfl, hC, -⟩
      rw [h.sh7 hlt]
      refine R_istore6 (pc := 90) dL_isAll_90 rfl (by decide) ?_
      refine R_iload_n3 (pc := 92) dL_isAll_92 ?_
      refine R_iload5 (pc := 93) dL_isAll_93 ?_
      refine R_if_eq (pc := 95) 108 dL_isAll_95 (by decide) (fun c0 => False.elim (by revert c0; decide)) (fun _ => ?_)
      refine R_aload_n0 (pc := 98) dL_isAll_98 ?_
      refine R_iload4 (pc := 99) dL_isAll_99 ?_
      refine R_iconst (pc := 101) (v := 3) dL_isAll_101 (by decide) ?_
      refine R_callV2 (pc := 102) (T := TX9) cal_X9_ship kw440 kw441 kw442 dL_isAll_102 (c_X9_ship hC) (by decide) (Nat.le_of_ble_eq_true rfl) (ci := 7) rfl hC.self ?_
      rintro _ _ ⟨rfl, hC, -⟩
      rw [h.sh3 hlt]
      refine R_goto (pc := 105) 109 dL_isAll_105 (by decide) ?_
      refine R_iadd (pc := 109) dL_isAll_109 ?_
      rw [hsum]
      refine R_istore_n3 (pc := 110) dL_isAll_110 rfl (by decide) ?_
      refine R_iload5 (pc := 111) dL_isAll_111 ?_
      refine R_aload_n0 (pc := 113) dL_isAll_113 ?_
      refine R_iload4 (pc := 114) dL_isAll_114 ?_
      refine R_iconst (pc := 116) (v := 1) dL_isAll_116 (by decide) ?_
      refine R_callV2 (pc := 117) (T := TX9) cal_X9_ship kw440 kw441 kw442 dL_isAll_117 (c_X9_ship hC) (by decide) (Nat.le_of_ble_eq_true rfl) (ci := 7) rfl hC.self ?_
      rintro _ _ ⟨rfl, hC, -⟩
      rw [h.sh1 hlt hf]
      refine R_if_lt (pc := 120) 127 dL_isAll_120 (by decide) (fun c_120 => absurd c_120 (Int32.not_lt.mpr (h.xr i hi8).1)) (fun c_120 => ?_)
      refine R_iconst (pc := 123) (v := 1) dL_isAll_123 (by decide) ?_
      refine R_goto (pc := 124) 128 dL_isAll_124 (by decide) ?_
      refine R_icmp_ne (pc := 128) 213 dL_isAll_128 (by decide) (fun c0 => False.elim (by revert c0; decide)) (fun _ => ?_)
      refine R_iload5 (pc := 131) dL_isAll_131 ?_
      refine R_aload_n0 (pc := 133) dL_isAll_133 ?_
      refine R_iload4 (pc := 134) dL_isAll_134 ?_
      refine R_iconst (pc := 136) (v := 3) dL_isAll_136 (by decide) ?_
      refine R_callV2 (pc := 137) (T := TX9) cal_X9_ship kw440 kw441 kw442 dL_isAll_137 (c_X9_ship hC) (by decide) (Nat.le_of_ble_eq_true rfl) (ci := 7) rfl hC.self ?_
      rintro _ _ ⟨rfl, hC, -⟩
      rw [h.sh3 hlt]
      refine R_if_le (pc := 140) 147 dL_isAll_140 (by decide) (fun c_140 => absurd c_140 (Int32.not_le.mpr ((h.fl hi8).mpr hf))) (fun c_140 => ?_)
      refine R_iconst (pc := 143) (v := 1) dL_isAll_143 (by decide) ?_
      refine R_goto (pc := 144) 148 dL_isAll_144 (by decide) ?_
      refine R_icmp_ne (pc := 148) 213 dL_isAll_148 (by decide) (fun c0 => False.elim (by revert c0; decide)) (fun _ => ?_)
      refine R_iload5 (pc := 151) dL_isAll_151 ?_
      refine R_if_eq (pc := 153) 172 dL_isAll_153 (by decide) (fun c0 => False.elim (by revert c0; decide)) (fun _ => ?_)
      refine R_aload_n0 (pc := 156) dL_isAll_156 ?_
      refine R_aload_n0 (pc := 157) dL_isAll_157 ?_
      refine R_iload4 (pc := 158) dL_isAll_158 ?_
      refine R_iconst (pc := 160) (v := 1) dL_isAll_160 (by decide) ?_
      refine R_callV2 (pc := 161) (T := TX9) cal_X9_ship kw440 kw441 kw442 dL_isAll_161 (c_X9_ship hC) (by decide) (Nat.le_of_ble_eq_true rfl) (ci := 7) rfl hC.self ?_
      rintro _ _ ⟨rfl, hC, -⟩
      rw [h.sh1 hlt hf]
      refine R_callV1 (pc := 164) (T := TX9) cal_X9_on kw411 kw412 kw413 dL_isAll_164 (c_X9_on hC) (by decide) (Nat.le_of_ble_eq_true rfl) (ci := 7) rfl hC.self ?_
      rintro _ _ ⟨rfl, hC, -⟩
      rw [h.onv hi8 hf]
      refine R_iload4 (pc := 167) dL_isAll_167 ?_
      refine R_icmp_ne (pc := 169) 213 dL_isAll_169 (by decide) (fun c_169 => absurd rfl c_169) (fun c_169 => ?_)
      refine R_iload6 (pc := 172) dL_isAll_172 ?_
      refine R_bipush (pc := 174) (v := (-9)) dL_isAll_174 (by decide) ?_
      refine R_icmp_eq (pc := 176) 209 dL_isAll_176 (by decide) (fun c_176 => ?_) (fun c_176 => ?_)
      · skip
        refine R_iconst (pc := 209) (v := 1) dL_isAll_209 (by decide) ?_
        refine R_goto (pc := 210) 214 dL_isAll_210 (by decide) ?_
        refine R_istore_n2 (pc := 214) dL_isAll_214 rfl (by decide) ?_
        refine R_iload_n2 (pc := 215) dL_isAll_215 ?_
        refine R_if_eq (pc := 216) 256 dL_isAll_216 (by decide) (fun c0 => False.elim (by revert c0; decide)) (fun _ => ?_)
        refine R_iload5 (pc := 219) dL_isAll_219 ?_
        refine R_if_ne (pc := 221) 252 dL_isAll_221 (by decide) (fun _ => ?_) (fun c0 => False.elim (by revert c0; decide))
        refine R_iconst (pc := 252) (v := 1) dL_isAll_252 (by decide) ?_
        refine R_goto (pc := 253) 257 dL_isAll_253 (by decide) ?_
        refine R_istore_n2 (pc := 257) dL_isAll_257 rfl (by decide) ?_
        refine R_iconst (pc := 258) (v := 0) dL_isAll_258 (by decide) ?_
        refine R_istore7 (pc := 259) dL_isAll_259 rfl (by decide) ?_
        refine R_weak (L2 := [some (.ref w), some (.int (nI (mb (fla C.1.1) 8))), some (.int 1), some (.int (nI (sm (hg C.1.1) (i + 1)))), some (.int (nI i)), none, none, some (.int (nI 0)), none, none, none]) (by repeat (first | exact trivial | refine ⟨rfl, ?_⟩ | refine ⟨trivial, ?_⟩)) (LA_s h hlt (fun hh hC => ?_) 2 0 _ rfl hC)
        refine R_iinc4 (pc := 421) dL_isAll_421 rfl (by decide) ?_
        refine R_goto (pc := 424) 51 dL_isAll_424 (by decide) ?_
        rw [nI_s]
        exact ih (i + 1) _ (by omega) hC
      · skip
        obtain ⟨j, z1, z2, z3, z4, z5⟩ := (h.pr hi8).resolve_left c_176
        rw [z2]
        refine R_aload_n0 (pc := 179) dL_isAll_179 ?_
        refine R_iload6 (pc := 180) dL_isAll_180 ?_
        refine R_bipush (pc := 182) (v := 7) dL_isAll_182 (by decide) ?_
        refine R_callV2 (pc := 184) (T := TX9) cal_X9_ship kw440 kw441 kw442 dL_isAll_184 (c_X9_ship hC) (by decide) (Nat.le_of_ble_eq_true rfl) (ci := 7) rfl hC.self ?_
        rintro _ _ ⟨rfl, hC, -⟩
        rw [h.sh7 z1, z3]
        refine R_iload4 (pc := 187) dL_isAll_187 ?_
        refine R_icmp_ne (pc := 189) 213 dL_isAll_189 (by decide) (fun c_189 => absurd rfl c_189) (fun c_189 => ?_)
        refine R_aload_n0 (pc := 192) dL_isAll_192 ?_
        refine R_iload6 (pc := 193) dL_isAll_193 ?_
        refine R_iconst (pc := 195) (v := 0) dL_isAll_195 (by decide) ?_
        refine R_callV2 (pc := 196) (T := TX9) cal_X9_ship kw440 kw441 kw442 dL_isAll_196 (c_X9_ship hC) (by decide) (Nat.le_of_ble_eq_true rfl) (ci := 7) rfl hC.self ?_
        rintro _ _ ⟨rfl, hC, -⟩
        rw [h.sh0 z1]
        refine R_aload_n0 (pc := 199) dL_isAll_199 ?_
        refine R_iload4 (pc := 200) dL_isAll_200 ?_
        refine R_iconst (pc := 202) (v := 0) dL_isAll_202 (by decide) ?_
        refine R_callV2 (pc := 203) (T := TX9) cal_X9_ship kw440 kw441 kw442 dL_isAll_203 (c_X9_ship hC) (by decide) (Nat.le_of_ble_eq_true rfl) (ci := 7) rfl hC.self ?_
        rintro _ _ ⟨rfl, hC, -⟩
        rw [h.sh0 hlt]
        refine R_icmp_eq (pc := 206) 213 dL_isAll_206 (by decide) (fun c_206 => absurd c_206 z4) (fun c_206 => ?_)
        refine R_iconst (pc := 209) (v := 1) dL_isAll_209 (by decide) ?_
        refine R_goto (pc := 210) 214 dL_isAll_210 (by decide) ?_
        refine R_istore_n2 (pc := 214) dL_isAll_214 rfl (by decide) ?_
        refine R_iload_n2 (pc := 215) dL_isAll_215 ?_
        refine R_if_eq (pc := 216) 256 dL_isAll_216 (by decide) (fun c0 => False.elim (by revert c0; decide)) (fun _ => ?_)
        refine R_iload5 (pc := 219) dL_isAll_219 ?_
        refine R_if_ne (pc := 221) 252 dL_isAll_221 (by decide) (fun _ => ?_) (fun c0 => False.elim (by revert c0; decide))
        refine R_iconst (pc := 252) (v := 1) dL_isAll_252 (by decide) ?_
        refine R_goto (pc := 253) 257 dL_isAll_253 (by decide) ?_
        refine R_istore_n2 (pc := 257) dL_isAll_257 rfl (by decide) ?_
        refine R_iconst (pc := 258) (v := 0) dL_isAll_258 (by decide) ?_
        refine R_istore7 (pc := 259) dL_isAll_259 rfl (by decide) ?_
        refine R_weak (L2 := [some (.ref w), some (.int (nI (mb (fla C.1.1) 8))), some (.int 1), some (.int (nI (sm (hg C.1.1) (i + 1)))), some (.int (nI i)), none, none, some (.int (nI 0)), none, none, none]) (by repeat (first | exact trivial | refine ⟨rfl, ?_⟩ | refine ⟨trivial, ?_⟩)) (LA_s h hlt (fun hh hC => ?_) 2 0 _ rfl hC)
        refine R_iinc4 (pc := 421) dL_isAll_421 rfl (by decide) ?_
        refine R_goto (pc := 424) 51 dL_isAll_424 (by decide) ?_
        rw [nI_s]
        exact ih (i + 1) _ (by omega) hC

set_option maxHeartbeats 4000000 in
set_option maxRecDepth 100000 in
theorem c_L_isAll {hh : AH} (h : Inv sn T C.1.1) (hC : CAt hh w C) : Spec l D cA N0 m_L_isAll 7 0 0 [.ref w] hh (fun r h' => r = some (.int 1) ∧ CAt h' w C) := by
  refine Spec.of (L := [some (.ref w), none, none, none, none, none, none, none, none, none, none]) (by decide) rfl (Nat.le_of_ble_eq_true rfl) ?_
  refine R_aload_n0 (pc := 0) dL_isAll_0 ?_
  refine R_bipush (pc := 1) (v := 6) dL_isAll_1 (by decide) ?_
  refine R_callV1 (pc := 3) (T := TX9) cal_X9_count kw339 kw340 kw341 dL_isAll_3 (c_X9_count hC) (by decide) (Nat.le_of_ble_eq_true rfl) (ci := 7) rfl hC.self ?_
  rintro _ _ ⟨rfl, hC, -⟩
  rw [h.c6]
  refine R_istore_n1 (pc := 6) dL_isAll_6 rfl (by decide) ?_
  refine R_aload_n0 (pc := 7) dL_isAll_7 ?_
  refine R_iconst (pc := 8) (v := 0) dL_isAll_8 (by decide) ?_
  refine R_iconst (pc := 9) (v := 3) dL_isAll_9 (by decide) ?_
  refine R_callV2 (pc := 10) (T := TX9) cal_X9_captain kw474 kw475 kw476 dL_isAll_10 (c_X9_captain hC) (by decide) (Nat.le_of_ble_eq_true rfl) (ci := 7) rfl hC.self ?_
  rintro _ _ ⟨rfl, hC, -⟩
  refine R_aload_n0 (pc := 13) dL_isAll_13 ?_
  refine R_iconst (pc := 14) (v := 1) dL_isAll_14 (by decide) ?_
  refine R_iconst (pc := 15) (v := 3) dL_isAll_15 (by decide) ?_
  refine R_callV2 (pc := 16) (T := TX9) cal_X9_captain kw474 kw475 kw476 dL_isAll_16 (c_X9_captain hC) (by decide) (Nat.le_of_ble_eq_true rfl) (ci := 7) rfl hC.self ?_
  rintro _ _ ⟨rfl, hC, -⟩
  refine R_iand (pc := 19) dL_isAll_19 ?_
  refine R_if_ne (pc := 20) 44 dL_isAll_20 (by decide) (fun c_20 => absurd h.cpA c_20) (fun c_20 => ?_)
  refine R_aload_n0 (pc := 23) dL_isAll_23 ?_
  refine R_iconst (pc := 24) (v := 0) dL_isAll_24 (by decide) ?_
  refine R_iconst (pc := 25) (v := 3) dL_isAll_25 (by decide) ?_
  refine R_callV2 (pc := 26) (T := TX9) cal_X9_captain kw474 kw475 kw476 dL_isAll_26 (c_X9_captain hC) (by decide) (Nat.le_of_ble_eq_true rfl) (ci := 7) rfl hC.self ?_
  rintro _ _ ⟨rfl, hC, -⟩
  refine R_aload_n0 (pc := 29) dL_isAll_29 ?_
  refine R_iconst (pc := 30) (v := 1) dL_isAll_30 (by decide) ?_
  refine R_iconst (pc := 31) (v := 3) dL_isAll_31 (by decide) ?_
  refine R_callV2 (pc := 32) (T := TX9) cal_X9_captain kw474 kw475 kw476 dL_isAll_32 (c_X9_captain hC) (by decide) (Nat.le_of_ble_eq_true rfl) (ci := 7) rfl hC.self ?_
  rintro _ _ ⟨rfl, hC, -⟩
  refine R_ior (pc := 35) dL_isAll_35 ?_
  refine R_iload_n1 (pc := 36) dL_isAll_36 ?_
  refine R_icmp_ne (pc := 37) 44 dL_isAll_37 (by decide) (fun c_37 => absurd h.cpO c_37) (fun c_37 => ?_)
  refine R_iconst (pc := 40) (v := 1) dL_isAll_40 (by decide) ?_
  refine R_goto (pc := 41) 45 dL_isAll_41 (by decide) ?_
  refine R_istore_n2 (pc := 45) dL_isAll_45 rfl (by decide) ?_
  refine R_iconst (pc := 46) (v := 0) dL_isAll_46 (by decide) ?_
  refine R_istore_n3 (pc := 47) dL_isAll_47 rfl (by decide) ?_
  refine R_iconst (pc := 48) (v := 0) dL_isAll_48 (by decide) ?_
  refine R_istore4 (pc := 49) dL_isAll_49 rfl (by decide) ?_
  exact LA_i h sn 0 _ (by omega) hC

end LV32
