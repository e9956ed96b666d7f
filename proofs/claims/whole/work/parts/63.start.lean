/-! THE LAW: from its start -/
set_option maxHeartbeats 4000000 in
set_option maxRecDepth 100000 in
theorem law_run {l : Launch} {D : va_G} {cA : Nat → ClassId} {N0 : Nat} {nm : String} {b L : Nat} {xs : Nat → Int32} (hL : L ≤ 3584) : RunL l D cA N0 nm b L xs (N0, fun _ => none) 0 0 0 [some (.ref b), none, none, none] [] := by
  refine R_new (pc := 0) (C := RX9) (T := TX9) (N := 4) (ci := 7) (fs := [.null, .null, .null, .null]) (ty := tyX9) dL_law_0 kw71 kw72 kw56 rfl inXW7 tyX9_ok dfl_X9 (by decide) (by decide) ?_
  refine R_nmd (a := N0) rfl (fun g0 eg0 fg0 zg0 kg0 => ?_)
  refine R_dup (pc := 3) dL_law_3 rfl ?_
  refine R_callI0 (pc := 4) cal_X9_init kw73 kw74 rfl rfl dL_law_4 (c_X9_init zg0 fg0) (by decide) (Nat.le_of_ble_eq_true rfl) ?_
  rintro _ h1 ⟨rfl, hs1, hk1, hC1⟩
  refine R_astore_n1 (pc := 7) dL_law_7 rfl (by decide) ?_
  refine R_new (pc := 8) (C := RX10) (T := TX10) (N := 13) (ci := 8) (fs := [.null, .null, .null, .int 0, .int 0, .null, .int 0, .int 0, .int 0, .int 0, .int 0, .null, .null]) (ty := tyX10) dL_law_8 kw837 kw838 kw64 rfl inXW8 tyX10_ok dfl_X10 (by decide) (by decide) ?_
  refine R_nmd (a := N0 + 329) hs1 (fun g1 eg1 fg1 zg1 kg1 => ?_)
  refine R_dup (pc := 11) dL_law_11 rfl ?_
  refine R_callI0 (pc := 12) cal_X10_init kw839 kw840 rfl rfl dL_law_12 (c_X10_init zg1 fg1) (by decide) (Nat.le_of_ble_eq_true rfl) ?_
  rintro _ h2 ⟨rfl, hs2, hk2, hM2⟩
  have hC2 := hC1.keep (h1 := h2) (fun x z1 z2 => (hk2 x (by omega)).trans (kg1 x (by omega)))
  refine R_astore_n2 (pc := 15) dL_law_15 rfl (by decide) ?_
  refine R_iconst (pc := 16) (v := 0) dL_law_16 (by decide) ?_
  refine R_istore_n3 (pc := 17) dL_law_17 rfl (by decide) ?_
  exact law_loop (by decide) (by decide) hL (Nat.le_refl _) 512 0 h2 C0 M0 hC2 hM2 RC_0 (by omega) (by omega)
/-- YOUR PART: from the entry, for every script of at most 3584 ints, the law comes to its end with true ('hflags': the launch's flags, for a law that throws: no stack traces) -/
theorem whole_start {p : Program} {e : Env} {s : State} {m : MethodId} {below : List Frame} {meth : Method} {c : Code} (l : Launch) (hflags : l.flags = flags0) {b L : Nat} {xs : Nat → Int32} (hL : L ≤ 3584) (C0 : lw_At p s m meth c b L xs) : W p l e room_1 s m #[Value.ref b] below meth c s.heap [] 0 0 (lw_Z below #[Value.ref b] s) (entryFrame m ([Value.ref b] : List Value).toArray 4) := by
  obtain ⟨hx, hb, hrt, hml, hown, hts, hX, hbl, hlk, hgv⟩ := C0
  obtain ⟨D, cA, hKK⟩ := kk_start hts
  have hl := lv_entry [Value.ref b] (n := 4) (Nat.le_of_ble_eq_true rfl)
  rw [lg_entry_eq]
  have K := law_run (l := l) (D := D) (cA := cA) (N0 := s.heap.size) (nm := meth.name) (b := b) hL p e s m #[Value.ref b] below meth c s.heap [] _ ⟨hx, hb, hml, hrt, hlk, hown, rfl, wsa_ok hts, hKK, Nat.le_refl _, hX, hbl, rfl⟩ ⟨rfl, fun a e h => by cases h⟩ va_S.rf (by rw [LH]; exact hl)
  intro T hT X
  obtain ⟨t, t1, t2⟩ := K T hT X
  exact ⟨t, t1, t2 rfl⟩
