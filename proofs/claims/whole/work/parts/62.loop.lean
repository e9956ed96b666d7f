/-! THE LAW: round and round -/
theorem lw_more {L i : Nat} (hL : L < 2 ^ 30) (hi : i < 2 ^ 30) : nI L - 7 < nI i ↔ L < i + 7 := by
  have e : (nI i - nI 0) = nI i := pk_sub (Nat.zero_le i)
  rw [Int32.lt_iff_toInt_lt, show (7 : Int32) = nI 7 from rfl, pk_sub_toInt hL (by decide), ← e, pk_sub_toInt hi (by decide)]
  omega
section LV62
variable {l : Launch} {D : va_G} {cA : Nat → ClassId} {N0 : Nat} {nm : String} {b L : Nat} {xs : Nat → Int32} {k n w u : Nat}
set_option maxHeartbeats 4000000 in
set_option maxRecDepth 100000 in
theorem law_loop (hk : k ≤ 600000) (hnn : n ≤ 7302250) (hL3 : L ≤ 3584) (hwu : w + 329 ≤ u) : ∀ (n' j : Nat) (h : AH) (C : Cm) (M : Mm), CAt h w C → MAt h u M → RC (101 * j) C M → L < 7 * j + 7 * n' + 7 → j + n' ≤ 512 → RunL l D cA N0 nm b L xs h k n 18 [some (.ref b), some (.ref w), some (.ref u), some (.int (nI (7 * j)))] [] := by
  have hL31 : L < 2 ^ 31 := by omega
  intro n'
  induction n' with
  | zero =>
    intro j h C M hC hM hR hn' hj
    refine R_iload_n3 (pc := 18) dL_law_18 ?_
    refine R_aload_n0 (pc := 19) dL_law_19 ?_
    refine R_slen (pc := 20) dL_law_20 ?_
    refine R_bipush (pc := 21) (v := 7) dL_law_21 (by decide) ?_
    refine R_isub (pc := 23) dL_law_23 ?_
    refine R_icmp_gt (pc := 24) 1002 dL_law_24 (by decide) (fun c_24 => ?_) (fun c_24 => absurd ((lw_more (by omega) (by omega)).mpr (by omega)) c_24)
    refine R_iconst (pc := 1002) (v := 1) dL_law_1002 (by decide) ?_
    exact R_lawret dL_law_1003 hk hnn
  | succ n' ih =>
    intro j h C M hC hM hR hn' hj
    have hTT : 101 * j + 101 < 2 ^ 29 := by omega
    have K : ∀ (h2 : AH) (C2 : Cm) (M2 : Mm), CAt h2 w C2 → MAt h2 u M2 → RC (101 * j + 101) C2 M2 → RunL l D cA N0 nm b L xs h2 k n 996 [some (.ref b), some (.ref w), some (.ref u), some (.int (nI (7 * j)))] [] := by
      intro h2 C2 M2 a1 a2 a3
      refine R_iinc3 (pc := 996) dL_law_996 rfl (by decide) ?_
      refine R_goto (pc := 999) 18 dL_law_999 (by decide) ?_
      rw [show nI (7 * j) + Int32.ofInt 7 = nI (7 * (j + 1)) from nI_add (7 * j) 7]
      exact ih (j + 1) _ _ _ a1 a2 (by rw [show 101 * (j + 1) = 101 * j + 101 by omega]; exact a3) (by omega) (by omega)
    refine R_iload_n3 (pc := 18) dL_law_18 ?_
    refine R_aload_n0 (pc := 19) dL_law_19 ?_
    refine R_slen (pc := 20) dL_law_20 ?_
    refine R_bipush (pc := 21) (v := 7) dL_law_21 (by decide) ?_
    refine R_isub (pc := 23) dL_law_23 ?_
    refine R_icmp_gt (pc := 24) 1002 dL_law_24 (by decide) (fun c_24 => ?_) (fun c_24 => ?_)
    · skip
      have d_24 := Int32.not_le.mpr c_24
      refine R_iconst (pc := 1002) (v := 1) dL_law_1002 (by decide) ?_
      exact R_lawret dL_law_1003 hk hnn
    · skip
      have d_24 := Int32.not_lt.mp c_24
      have hiL : 7 * j + 7 ≤ L := by have := (not_congr (lw_more (by omega) (by omega))).mp c_24; omega
      refine R_aload_n0 (pc := 27) dL_law_27 ?_
      refine R_iload_n3 (pc := 28) dL_law_28 ?_
      refine R_sld (pc := 29) dL_law_29 (by omega) hL31 ?_
      refine R_bipush (pc := 30) (v := 31) dL_law_30 (by decide) ?_
      refine R_iand (pc := 32) dL_law_32 ?_
      refine R_swG (pc := 33) (lo := 0) (hi := 27) 996 dL_law_33 (by decide) (fun c_33 => ?_) (fun c_33 c_33b => ?_)
      · skip
        exact K _ _ _ hC hM (hR.mono (by omega))
      · skip
        rcases sw_0_27 _ c_33 c_33b with c_33 | c_33 | c_33 | c_33 | c_33 | c_33 | c_33 | c_33 | c_33 | c_33 | c_33 | c_33 | c_33 | c_33 | c_33 | c_33 | c_33 | c_33 | c_33 | c_33 | c_33 | c_33 | c_33 | c_33 | c_33 | c_33 | c_33 | c_33
        · skip
          refine R_swE (pc := 33) (v := 0) (off := 127) 160 dL_law_33 c_33 (by decide) (by decide) (by decide) (by decide) ?_
          exact law_setIsland hk hnn hL31 hC hM hR hTT hiL hwu K
        · skip
          refine R_swE (pc := 33) (v := 1) (off := 160) 193 dL_law_33 c_33 (by decide) (by decide) (by decide) (by decide) ?_
          exact law_addShip hk hnn hL31 hC hM hR hTT hiL hwu K
        · skip
          refine R_swE (pc := 33) (v := 2) (off := 235) 268 dL_law_33 c_33 (by decide) (by decide) (by decide) (by decide) ?_
          exact law_setTimber hk hnn hL31 hC hM hR hTT hiL hwu K
        · skip
          refine R_swE (pc := 33) (v := 3) (off := 268) 301 dL_law_33 c_33 (by decide) (by decide) (by decide) (by decide) ?_
          exact law_tell hk hnn hL31 hC hM hR hTT hiL hwu K
        · skip
          refine R_swE (pc := 33) (v := 4) (off := 301) 334 dL_law_33 c_33 (by decide) (by decide) (by decide) (by decide) ?_
          exact law_sail hk hnn hL31 hC hM hR hTT hiL hwu K
        · skip
          refine R_swE (pc := 33) (v := 5) (off := 334) 367 dL_law_33 c_33 (by decide) (by decide) (by decide) (by decide) ?_
          exact law_fire hk hnn hL31 hC hM hR hTT hiL hwu K
        · skip
          refine R_swE (pc := 33) (v := 6) (off := 377) 410 dL_law_33 c_33 (by decide) (by decide) (by decide) (by decide) ?_
          exact law_grapple hk hnn hL31 hC hM hR hTT hiL hwu K
        · skip
          refine R_swE (pc := 33) (v := 7) (off := 410) 443 dL_law_33 c_33 (by decide) (by decide) (by decide) (by decide) ?_
          exact law_cut hk hnn hL31 hC hM hR hTT hiL hwu K
        · skip
          refine R_swE (pc := 33) (v := 8) (off := 433) 466 dL_law_33 c_33 (by decide) (by decide) (by decide) (by decide) ?_
          exact law_repair hk hnn hL31 hC hM hR hTT hiL hwu K
        · skip
          refine R_swE (pc := 33) (v := 9) (off := 466) 499 dL_law_33 c_33 (by decide) (by decide) (by decide) (by decide) ?_
          exact law_end hk hnn hL31 hC hM hR hTT hiL hwu K
        · skip
          refine R_swE (pc := 33) (v := 10) (off := 479) 512 dL_law_33 c_33 (by decide) (by decide) (by decide) (by decide) ?_
          exact law_take hk hnn hL31 hC hM hR hTT hiL hwu K
        · skip
          refine R_swE (pc := 33) (v := 11) (off := 502) 535 dL_law_33 c_33 (by decide) (by decide) (by decide) (by decide) ?_
          exact law_restore hk hnn hL31 hC hM hR hTT hiL hwu K
        · skip
          refine R_swE (pc := 33) (v := 12) (off := 525) 558 dL_law_33 c_33 (by decide) (by decide) (by decide) (by decide) ?_
          exact law_undo hk hnn hL31 hC hM hR hTT hiL hwu K
        · skip
          refine R_swE (pc := 33) (v := 13) (off := 538) 571 dL_law_33 c_33 (by decide) (by decide) (by decide) (by decide) ?_
          exact law_append hk hnn hL31 hC hM hR hTT hiL hwu K
        · skip
          refine R_swE (pc := 33) (v := 14) (off := 561) 594 dL_law_33 c_33 (by decide) (by decide) (by decide) (by decide) ?_
          exact law_clearText hk hnn hL31 hC hM hR hTT hiL hwu K
        · skip
          refine R_swE (pc := 33) (v := 15) (off := 574) 607 dL_law_33 c_33 (by decide) (by decide) (by decide) (by decide) ?_
          exact law_carryOut hk hnn hL31 hC hM hR hTT hiL hwu K
        · skip
          refine R_swE (pc := 33) (v := 16) (off := 587) 620 dL_law_33 c_33 (by decide) (by decide) (by decide) (by decide) ?_
          exact law_count hk hnn hL31 hC hM hR hTT hiL hwu K
        · skip
          refine R_swE (pc := 33) (v := 17) (off := 610) 643 dL_law_33 c_33 (by decide) (by decide) (by decide) (by decide) ?_
          exact law_captain hk hnn hL31 hC hM hR hTT hiL hwu K
        · skip
          refine R_swE (pc := 33) (v := 18) (off := 643) 676 dL_law_33 c_33 (by decide) (by decide) (by decide) (by decide) ?_
          exact law_ship hk hnn hL31 hC hM hR hTT hiL hwu K
        · skip
          refine R_swE (pc := 33) (v := 19) (off := 676) 709 dL_law_33 c_33 (by decide) (by decide) (by decide) (by decide) ?_
          exact law_on hk hnn hL31 hC hM hR hTT hiL hwu K
        · skip
          refine R_swE (pc := 33) (v := 20) (off := 699) 732 dL_law_33 c_33 (by decide) (by decide) (by decide) (by decide) ?_
          exact law_targets hk hnn hL31 hC hM hR hTT hiL hwu K
        · skip
          refine R_swE (pc := 33) (v := 21) (off := 732) 765 dL_law_33 c_33 (by decide) (by decide) (by decide) (by decide) ?_
          exact law_hits hk hnn hL31 hC hM hR hTT hiL hwu K
        · skip
          refine R_swE (pc := 33) (v := 22) (off := 775) 808 dL_law_33 c_33 (by decide) (by decide) (by decide) (by decide) ?_
          exact law_way hk hnn hL31 hC hM hR hTT hiL hwu K
        · skip
          refine R_swE (pc := 33) (v := 23) (off := 818) 851 dL_law_33 c_33 (by decide) (by decide) (by decide) (by decide) ?_
          exact law_reach hk hnn hL31 hC hM hR hTT hiL hwu K
        · skip
          refine R_swE (pc := 33) (v := 24) (off := 841) 874 dL_law_33 c_33 (by decide) (by decide) (by decide) (by decide) ?_
          exact law_windBy hk hnn hL31 hC hM hR hTT hiL hwu K
        · skip
          refine R_swE (pc := 33) (v := 25) (off := 874) 907 dL_law_33 c_33 (by decide) (by decide) (by decide) (by decide) ?_
          exact law_bestCard hk hnn hL31 hC hM hR hTT hiL hwu K
        · skip
          refine R_swE (pc := 33) (v := 26) (off := 917) 950 dL_law_33 c_33 (by decide) (by decide) (by decide) (by decide) ?_
          exact law_threats hk hnn hL31 hC hM hR hTT hiL hwu K
        · skip
          refine R_swE (pc := 33) (v := 27) (off := 940) 973 dL_law_33 c_33 (by decide) (by decide) (by decide) (by decide) ?_
          exact law_strength hk hnn hL31 hC hM hR hTT hiL hwu K

end LV62
