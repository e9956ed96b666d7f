/-! ROUTES of the class: spread, explore, what they tell -/
def bway (G : Gm) (u : Nat) (d : Nat) (mo : Int32) (Q : Nat → Nat) : Bm := bexp G u mo 486 0 (bnote (b0 Q) (shF G u 2) d 0)
theorem bway_ok {G : Gm} {u d : Nat} (hd : d < 6) {mo : Int32} (hm : mo ≤ 6) (Q : Nat → Nat) : Bok (bway G u d mo Q) := bexp_ok hm _ _ _ (bnote_ok (b0_ok Q) hd (by decide))
theorem bat_of {B : Bm} (hB : Bok B) {i : Nat} (hi : i < B.2.2.2) : B.2.1 i < 486 ∧ B.1 (B.2.1 i) = some (bat B i) := by
  obtain ⟨h1, p, h2⟩ := hB.2.2.1 i hi
  exact ⟨h1, by unfold bat; rw [h2]; rfl⟩
/-- the path to a hex; 0: none, or it is the hex of the beginning -/
def bbest (B : Bm) (x : Nat) : Nat := match B.2.2.1 x with
  | none => 0
  | some pl => (B.1 pl).getD 0
theorem bbest_lt {B : Bm} (hB : Bok B) (x : Nat) : bbest B x < 1000000 := by
  unfold bbest
  split
  · omega
  · rename_i pl _
    cases q : B.1 pl with
    | none => simp
    | some p => exact hB.2.1 _ p q
theorem bbest_n {B : Bm} {x : Nat} (h : B.2.2.1 x = none) : bbest B x = 0 := by unfold bbest; rw [h]
theorem bbest_s {B : Bm} {x pl : Nat} (h : B.2.2.1 x = some pl) : bbest B x = (B.1 pl).getD 0 := by unfold bbest; rw [h]
def bhead (B : Bm) (x : Nat) : Nat := (B.2.2.1 x).getD 0 % 6
def btell (B : Bm) (x : Nat) (w : Int32) : Int32 := if bbest B x = 0 then -9 else if w = 0 then nI (bbest B x) else if w = 1 then nI (nd (bbest B x)) else nI (bhead B x)
def breach (B : Bm) : Nat → Nat
  | 0 => 0
  | x + 1 => breach B x + if 0 < bbest B x then 1 else 0
theorem breach_le (B : Bm) : ∀ x, breach B x ≤ x
  | 0 => Nat.le_refl _
  | x + 1 => by
    have := breach_le B x
    show breach B x + _ ≤ _
    split <;> omega
section LV16
variable {l : Launch} {D : va_G} {cA : Nat → ClassId} {N0 : Nat} {h : AH} {g w u : Nat} {G : Gm} {B : Bm}
set_option maxHeartbeats 4000000 in
set_option maxRecDepth 100000 in
theorem c_X6_spread (hG : GmAt h g G) (hi : u < 8) (hR : RtAt h w B) (hS : Bok B) {pl p : Nat} (hpl : pl < 486) (hp : p < 100000) : Spec l D cA N0 m_X6_spread 4 0 0 [.ref w, .ref g, .ref (sad g u), .int (nI pl), .int (nI (p * 10))] h (fun r h' => r = none ∧ RtAt h' w (bspread B G u pl p) ∧ Frm h h' w 4) := by
  refine Spec.of (L := [some (.ref w), some (.ref g), some (.ref (sad g u)), some (.int (nI pl)), some (.int (nI (p * 10))), none, none]) (by decide) rfl (Nat.le_of_ble_eq_true rfl) ?_
  have o0 := hR.1
  have hd6 : nI pl / 6 = nI (pl / 6) := pk_div (by omega) (by decide) (by decide)
  have hr6 : nI pl - nI pl / 6 * 6 = nI (pl % 6) := pk_rem (by omega) (by decide) (by decide)
  have hpm : pl % 6 < 6 := Nat.mod_lt _ (by decide)
  have ha2 : nI (p * 10) + 2 = nI (p * 10 + 2) := nI_add _ 2
  have ha3 : nI (p * 10) + 3 = nI (p * 10 + 3) := nI_add _ 3
  refine R_iload_n3 (pc := 0) dX6_spread_0 ?_
  refine R_bipush (pc := 1) (v := 6) dX6_spread_1 (by decide) ?_
  refine R_idiv (pc := 3) dX6_spread_3 (by decide) ?_
  rw [hd6]
  refine R_istore5 (pc := 4) dX6_spread_4 rfl (by decide) ?_
  refine R_iload_n3 (pc := 6) dX6_spread_6 ?_
  refine R_bipush (pc := 7) (v := 6) dX6_spread_7 (by decide) ?_
  refine R_irem (pc := 9) dX6_spread_9 (by decide) ?_
  rw [hr6]
  refine R_istore6 (pc := 10) dX6_spread_10 rfl (by decide) ?_
  refine R_aload_n0 (pc := 12) dX6_spread_12 ?_
  refine R_aload_n1 (pc := 13) dX6_spread_13 ?_
  refine R_aload_n2 (pc := 14) dX6_spread_14 ?_
  refine R_iload5 (pc := 15) dX6_spread_15 ?_
  refine R_iload6 (pc := 17) dX6_spread_17 ?_
  refine R_callV3 (pc := 19) (T := TX1) cal_X1_hexAhead kw545 kw546 kw547 dX6_spread_19 (c_X1_hexAhead hG hi) (by decide) (Nat.le_of_ble_eq_true rfl) (ci := 1) rfl hG.o0 ?_
  rintro _ h0 ⟨rfl, e0⟩
  rw [e0]
  refine R_iload6 (pc := 22) dX6_spread_22 ?_
  refine R_iload4 (pc := 24) dX6_spread_24 ?_
  refine R_iconst (pc := 26) (v := 1) dX6_spread_26 (by decide) ?_
  refine R_iadd (pc := 27) dX6_spread_27 ?_
  rw [nI_1]
  refine R_callV3 (pc := 28) (T := TX6) cal_X6_note kw532 kw534 kw14 dX6_spread_28 (c_X6_note hR hS.sm hpm (by omega)) (by decide) (Nat.le_of_ble_eq_true rfl) (ci := 4) rfl o0 ?_
  rintro _ h1 ⟨rfl, hR1, fr1⟩
  have hS1 := bnote_ok (x := k_ahead G u (nI (pl / 6)) (nI (pl % 6))) hS hpm (show p * 10 + 1 < 1000000 by omega)
  refine R_aload_n0 (pc := 31) dX6_spread_31 ?_
  refine R_iload5 (pc := 32) dX6_spread_32 ?_
  refine R_iload6 (pc := 34) dX6_spread_34 ?_
  refine R_iconst (pc := 36) (v := 2) dX6_spread_36 (by decide) ?_
  refine R_callS2 (pc := 37) cal_X5_turned kw549 kw550 dX6_spread_37 c_X5_turned (by decide) (Nat.le_of_ble_eq_true rfl) ?_
  rintro _ _ ⟨rfl, rfl⟩
  rw [turn_2 _ hpm]
  refine R_iload4 (pc := 40) dX6_spread_40 ?_
  refine R_iconst (pc := 42) (v := 2) dX6_spread_42 (by decide) ?_
  refine R_iadd (pc := 43) dX6_spread_43 ?_
  rw [ha2]
  refine R_callV3 (pc := 44) (T := TX6) cal_X6_note kw532 kw534 kw14 dX6_spread_44 (c_X6_note hR1 hS1.sm (Nat.mod_lt _ (by decide)) (by omega)) (by decide) (Nat.le_of_ble_eq_true rfl) (ci := 4) rfl hR1.1 ?_
  rintro _ h2 ⟨rfl, hR2, fr2⟩
  have hS2 := bnote_ok (x := nI (pl / 6)) hS1 (Nat.mod_lt (pl % 6 + 1) (show 0 < 6 by decide)) (show p * 10 + 2 < 1000000 by omega)
  refine R_aload_n0 (pc := 47) dX6_spread_47 ?_
  refine R_iload5 (pc := 48) dX6_spread_48 ?_
  refine R_iload6 (pc := 50) dX6_spread_50 ?_
  refine R_iconst (pc := 52) (v := 3) dX6_spread_52 (by decide) ?_
  refine R_callS2 (pc := 53) cal_X5_turned kw549 kw550 dX6_spread_53 c_X5_turned (by decide) (Nat.le_of_ble_eq_true rfl) ?_
  rintro _ _ ⟨rfl, rfl⟩
  rw [turn_3 _ hpm]
  refine R_iload4 (pc := 56) dX6_spread_56 ?_
  refine R_iconst (pc := 58) (v := 3) dX6_spread_58 (by decide) ?_
  refine R_iadd (pc := 59) dX6_spread_59 ?_
  rw [ha3]
  refine R_callV3 (pc := 60) (T := TX6) cal_X6_note kw532 kw534 kw14 dX6_spread_60 (c_X6_note hR2 hS2.sm (Nat.mod_lt _ (by decide)) (by omega)) (by decide) (Nat.le_of_ble_eq_true rfl) (ci := 4) rfl hR2.1 ?_
  rintro _ h3 ⟨rfl, hR3, fr3⟩
  refine R_vret (pc := 63) rfl dX6_spread_63 ?_
  exact ⟨rfl, hR3, (fr1.tr fr2).tr fr3⟩

set_option maxHeartbeats 4000000 in
set_option maxRecDepth 100000 in
theorem L_X6_explore (hG : GmAt h g G) (hi : u < 8) (hgw : g + 13 ≤ w ∨ w + 4 ≤ g) {mo : Int32} (hm : mo ≤ 6) : ∀ (n i : Nat) (B : Bm) (h1 : AH) (q : Option Value), i + n = 486 → Bok B → RtAt h1 w B → Frm h h1 w 4 → q = none ∨ (∃ x, q = some (.int x)) → RunM l D cA N0 m_X6_explore 5 0 0 (fun r h' => r = none ∧ RtAt h' w (bexp G u mo n i B) ∧ Frm h h' w 4) h1 0 0 37 [some (.ref w), some (.ref g), some (.ref (sad g u)), some (.int mo), some (.int (nI i)), q] [] := by
  intro n
  induction n with
  | zero =>
    intro i B h1 q hn hB hR fr hq
    have him : i = 486 := by omega
    have r0 := hR.1
    have r1 := hR.2.1
    have r2 := hR.2.2.1
    rcases hq with rfl | ⟨x, rfl⟩
    · skip
      refine R_iload4 (pc := 37) dX6_explore_37 ?_
      refine R_aload_n0 (pc := 39) dX6_explore_39 ?_
      refine G_X6_29 (pc := 40) dX6_explore_40 (by assumption) ?_
      refine R_icmp_ge (pc := 43) 118 dX6_explore_43 (by decide) (fun c_43 => ?_) (fun c_43 => absurd (nI_le (show B.2.2.2 ≤ i by rw [him]; exact hB.1) (by omega)) c_43)
      refine R_vret (pc := 118) rfl dX6_explore_118 ?_
      exact ⟨rfl, hR, fr⟩
    · skip
      refine R_iload4 (pc := 37) dX6_explore_37 ?_
      refine R_aload_n0 (pc := 39) dX6_explore_39 ?_
      refine G_X6_29 (pc := 40) dX6_explore_40 (by assumption) ?_
      refine R_icmp_ge (pc := 43) 118 dX6_explore_43 (by decide) (fun c_43 => ?_) (fun c_43 => absurd (nI_le (show B.2.2.2 ≤ i by rw [him]; exact hB.1) (by omega)) c_43)
      refine R_vret (pc := 118) rfl dX6_explore_118 ?_
      exact ⟨rfl, hR, fr⟩
  | succ n ih =>
    intro i B h1 q hn hB hR fr hq
    have r0 := hR.1
    have r1 := hR.2.1
    have r2 := hR.2.2.1
    rcases hq with rfl | ⟨x, rfl⟩
    · skip
      refine R_iload4 (pc := 37) dX6_explore_37 ?_
      refine R_aload_n0 (pc := 39) dX6_explore_39 ?_
      refine G_X6_29 (pc := 40) dX6_explore_40 (by assumption) ?_
      refine R_icmp_ge (pc := 43) 118 dX6_explore_43 (by decide) (fun c_43 => ?_) (fun c_43 => ?_)
      · skip
        have d_43 := Int32.not_lt.mpr c_43
        refine R_vret (pc := 118) rfl dX6_explore_118 ?_
        rw [bexp_s, if_neg (fun z => absurd ((nI_ltI (by omega) (by have := hB.1; omega)).mpr z) (Int32.not_lt.mpr c_43))]
        exact ⟨rfl, hR, fr⟩
      · skip
        have d_43 := Int32.not_le.mp c_43
        have hlt : i < B.2.2.2 := (nI_ltI (by omega) (by have := hB.1; omega)).mp (Int32.not_le.mp c_43)
        obtain ⟨hb1, hb2⟩ := bat_of hB hlt
        have hb3 := bat_lt hB i
        have hcl : (nI i).toNatClampNeg = i := nI_clamp (by omega)
        have hcl2 : (nI (B.2.1 i)).toNatClampNeg = B.2.1 i := nI_clamp (by omega)
        have heo : eo (B.1 (B.2.1 i)) = nI (bat B i) := by rw [hb2]; rfl
        refine R_iload4 (pc := 46) dX6_explore_46 ?_
        refine R_aload_n0 (pc := 48) dX6_explore_48 ?_
        refine G_X6_17 (pc := 49) dX6_explore_49 (by assumption) ?_
        refine R_alen (pc := 52) (v := 486) dX6_explore_52 (by assumption) (by decide) rfl ?_
        refine R_icmp_ge (pc := 53) 118 dX6_explore_53 (by decide) (fun c_53 => absurd c_53 (nI_ge (show i < 486 by omega) (by decide))) (fun c_53 => ?_)
        refine R_aload_n0 (pc := 56) dX6_explore_56 ?_
        refine G_X6_17 (pc := 57) dX6_explore_57 (by assumption) ?_
        refine R_iload4 (pc := 60) dX6_explore_60 ?_
        refine R_iald (pc := 62) dX6_explore_62 (by assumption) (in_n (show i < 486 by omega) (by decide)) ?_
        rw [hcl]
        refine R_istore5 (pc := 63) dX6_explore_63 rfl (by decide) ?_
        refine R_iload5 (pc := 65) dX6_explore_65 ?_
        refine R_if_lt (pc := 67) 112 dX6_explore_67 (by decide) (fun c_67 => absurd c_67 (Int32.not_lt.mpr (nI_pos' (show B.2.1 i < 2 ^ 31 by omega)))) (fun c_67 => ?_)
        refine R_iload5 (pc := 70) dX6_explore_70 ?_
        refine R_aload_n0 (pc := 72) dX6_explore_72 ?_
        refine G_X6_13 (pc := 73) dX6_explore_73 (by assumption) ?_
        refine R_alen (pc := 76) (v := 486) dX6_explore_76 (by assumption) (by decide) rfl ?_
        refine R_icmp_ge (pc := 77) 112 dX6_explore_77 (by decide) (fun c_77 => absurd c_77 (nI_ge hb1 (by decide))) (fun c_77 => ?_)
        refine R_aload_n0 (pc := 80) dX6_explore_80 ?_
        refine G_X6_13 (pc := 81) dX6_explore_81 (by assumption) ?_
        refine R_iload5 (pc := 84) dX6_explore_84 ?_
        refine R_iald (pc := 86) dX6_explore_86 (by assumption) (in_n hb1 (by decide)) ?_
        rw [hcl2, heo]
        refine R_callS1 (pc := 87) cal_X5_stepsOf kw538 kw539 dX6_explore_87 (c_X5_stepsOf (show bat B i < 2 ^ 31 by omega)) (by decide) (Nat.le_of_ble_eq_true rfl) ?_
        rintro _ h87 ⟨rfl, e87⟩
        rw [e87]
        refine R_iload_n3 (pc := 90) dX6_explore_90 ?_
        refine R_icmp_ge (pc := 91) 112 dX6_explore_91 (by decide) (fun c_91 => ?_) (fun c_91 => ?_)
        · skip
          have d_91 := Int32.not_lt.mpr c_91
          have hst : ¬ nI (nd (bat B i)) < mo := d_91
          refine R_iinc4 (pc := 112) dX6_explore_112 rfl (by decide) ?_
          refine R_goto (pc := 115) 37 dX6_explore_115 (by decide) ?_
          rw [nI_s]
          rw [bexp_s, if_pos hlt, bstep, if_neg hst]
          exact ih (i + 1) _ _ _ (by omega) hB hR fr (Or.inr ⟨_, rfl⟩)
        · skip
          have d_91 := Int32.not_le.mp c_91
          have hst : nI (nd (bat B i)) < mo := d_91
          refine R_aload_n0 (pc := 94) dX6_explore_94 ?_
          refine R_aload_n1 (pc := 95) dX6_explore_95 ?_
          refine R_aload_n2 (pc := 96) dX6_explore_96 ?_
          refine R_iload5 (pc := 97) dX6_explore_97 ?_
          refine R_aload_n0 (pc := 99) dX6_explore_99 ?_
          refine G_X6_13 (pc := 100) dX6_explore_100 (by assumption) ?_
          refine R_iload5 (pc := 103) dX6_explore_103 ?_
          refine R_iald (pc := 105) dX6_explore_105 (by assumption) (in_n hb1 (by decide)) ?_
          rw [hcl2, heo]
          refine R_bipush (pc := 106) (v := 10) dX6_explore_106 (by decide) ?_
          refine R_imul (pc := 108) dX6_explore_108 ?_
          rw [show nI (bat B i) * 10 = nI (bat B i * 10) from pk_mul _ 10]
          refine R_callV4 (pc := 109) (T := TX6) cal_X6_spread kw541 kw543 kw15 dX6_explore_109 (c_X6_spread (gAt_keep hG (fun y z1 z2 => fr.2 y (by omega))) hi hR hB hb1 (bat_5 hst hm hB)) (by decide) (Nat.le_of_ble_eq_true rfl) (ci := 4) rfl (by assumption) ?_
          rintro _ h9 ⟨rfl, hR9, fr9⟩
          refine R_iinc4 (pc := 112) dX6_explore_112 rfl (by decide) ?_
          refine R_goto (pc := 115) 37 dX6_explore_115 (by decide) ?_
          rw [nI_s]
          rw [bexp_s, if_pos hlt, bstep, if_pos hst]
          exact ih (i + 1) _ _ _ (by omega) (bspread_ok hB (bat_5 hst hm hB)) hR9 (fr.tr fr9) (Or.inr ⟨_, rfl⟩)
    · skip
      refine R_iload4 (pc := 37) dX6_explore_37 ?_
      refine R_aload_n0 (pc := 39) dX6_explore_39 ?_
      refine G_X6_29 (pc := 40) dX6_explore_40 (by assumption) ?_
      refine R_icmp_ge (pc := 43) 118 dX6_explore_43 (by decide) (fun c_43 => ?_) (fun c_43 => ?_)
      · skip
        have d_43 := Int32.not_lt.mpr c_43
        refine R_vret (pc := 118) rfl dX6_explore_118 ?_
        rw [bexp_s, if_neg (fun z => absurd ((nI_ltI (by omega) (by have := hB.1; omega)).mpr z) (Int32.not_lt.mpr c_43))]
        exact ⟨rfl, hR, fr⟩
      · skip
        have d_43 := Int32.not_le.mp c_43
        have hlt : i < B.2.2.2 := (nI_ltI (by omega) (by have := hB.1; omega)).mp (Int32.not_le.mp c_43)
        obtain ⟨hb1, hb2⟩ := bat_of hB hlt
        have hb3 := bat_lt hB i
        have hcl : (nI i).toNatClampNeg = i := nI_clamp (by omega)
        have hcl2 : (nI (B.2.1 i)).toNatClampNeg = B.2.1 i := nI_clamp (by omega)
        have heo : eo (B.1 (B.2.1 i)) = nI (bat B i) := by rw [hb2]; rfl
        refine R_iload4 (pc := 46) dX6_explore_46 ?_
        refine R_aload_n0 (pc := 48) dX6_explore_48 ?_
        refine G_X6_17 (pc := 49) dX6_explore_49 (by assumption) ?_
        refine R_alen (pc := 52) (v := 486) dX6_explore_52 (by assumption) (by decide) rfl ?_
        refine R_icmp_ge (pc := 53) 118 dX6_explore_53 (by decide) (fun c_53 => absurd c_53 (nI_ge (show i < 486 by omega) (by decide))) (fun c_53 => ?_)
        refine R_aload_n0 (pc := 56) dX6_explore_56 ?_
        refine G_X6_17 (pc := 57) dX6_explore_57 (by assumption) ?_
        refine R_iload4 (pc := 60) dX6_explore_60 ?_
        refine R_iald (pc := 62) dX6_explore_62 (by assumption) (in_n (show i < 486 by omega) (by decide)) ?_
        rw [hcl]
        refine R_istore5 (pc := 63) dX6_explore_63 rfl (by decide) ?_
        refine R_iload5 (pc := 65) dX6_explore_65 ?_
        refine R_if_lt (pc := 67) 112 dX6_explore_67 (by decide) (fun c_67 => absurd c_67 (Int32.not_lt.mpr (nI_pos' (show B.2.1 i < 2 ^ 31 by omega)))) (fun c_67 => ?_)
        refine R_iload5 (pc := 70) dX6_explore_70 ?_
        refine R_aload_n0 (pc := 72) dX6_explore_72 ?_
        refine G_X6_13 (pc := 73) dX6_explore_73 (by assumption) ?_
        refine R_alen (pc := 76) (v := 486) dX6_explore_76 (by assumption) (by decide) rfl ?_
        refine R_icmp_ge (pc := 77) 112 dX6_explore_77 (by decide) (fun c_77 => absurd c_77 (nI_ge hb1 (by decide))) (fun c_77 => ?_)
        refine R_aload_n0 (pc := 80) dX6_explore_80 ?_
        refine G_X6_13 (pc := 81) dX6_explore_81 (by assumption) ?_
        refine R_iload5 (pc := 84) dX6_explore_84 ?_
        refine R_iald (pc := 86) dX6_explore_86 (by assumption) (in_n hb1 (by decide)) ?_
        rw [hcl2, heo]
        refine R_callS1 (pc := 87) cal_X5_stepsOf kw538 kw539 dX6_explore_87 (c_X5_stepsOf (show bat B i < 2 ^ 31 by omega)) (by decide) (Nat.le_of_ble_eq_true rfl) ?_
        rintro _ h87 ⟨rfl, e87⟩
        rw [e87]
        refine R_iload_n3 (pc := 90) dX6_explore_90 ?_
        refine R_icmp_ge (pc := 91) 112 dX6_explore_91 (by decide) (fun c_91 => ?_) (fun c_91 => ?_)
        · skip
          have d_91 := Int32.not_lt.mpr c_91
          have hst : ¬ nI (nd (bat B i)) < mo := d_91
          refine R_iinc4 (pc := 112) dX6_explore_112 rfl (by decide) ?_
          refine R_goto (pc := 115) 37 dX6_explore_115 (by decide) ?_
          rw [nI_s]
          rw [bexp_s, if_pos hlt, bstep, if_neg hst]
          exact ih (i + 1) _ _ _ (by omega) hB hR fr (Or.inr ⟨_, rfl⟩)
        · skip
          have d_91 := Int32.not_le.mp c_91
          have hst : nI (nd (bat B i)) < mo := d_91
          refine R_aload_n0 (pc := 94) dX6_explore_94 ?_
          refine R_aload_n1 (pc := 95) dX6_explore_95 ?_
          refine R_aload_n2 (pc := 96) dX6_explore_96 ?_
          refine R_iload5 (pc := 97) dX6_explore_97 ?_
          refine R_aload_n0 (pc := 99) dX6_explore_99 ?_
          refine G_X6_13 (pc := 100) dX6_explore_100 (by assumption) ?_
          refine R_iload5 (pc := 103) dX6_explore_103 ?_
          refine R_iald (pc := 105) dX6_explore_105 (by assumption) (in_n hb1 (by decide)) ?_
          rw [hcl2, heo]
          refine R_bipush (pc := 106) (v := 10) dX6_explore_106 (by decide) ?_
          refine R_imul (pc := 108) dX6_explore_108 ?_
          rw [show nI (bat B i) * 10 = nI (bat B i * 10) from pk_mul _ 10]
          refine R_callV4 (pc := 109) (T := TX6) cal_X6_spread kw541 kw543 kw15 dX6_explore_109 (c_X6_spread (gAt_keep hG (fun y z1 z2 => fr.2 y (by omega))) hi hR hB hb1 (bat_5 hst hm hB)) (by decide) (Nat.le_of_ble_eq_true rfl) (ci := 4) rfl (by assumption) ?_
          rintro _ h9 ⟨rfl, hR9, fr9⟩
          refine R_iinc4 (pc := 112) dX6_explore_112 rfl (by decide) ?_
          refine R_goto (pc := 115) 37 dX6_explore_115 (by decide) ?_
          rw [nI_s]
          rw [bexp_s, if_pos hlt, bstep, if_pos hst]
          exact ih (i + 1) _ _ _ (by omega) (bspread_ok hB (bat_5 hst hm hB)) hR9 (fr.tr fr9) (Or.inr ⟨_, rfl⟩)

set_option maxHeartbeats 4000000 in
set_option maxRecDepth 100000 in
theorem c_X6_explore (hG : GmAt h g G) (hi : u < 8) (hgw : g + 13 ≤ w ∨ w + 4 ≤ g) {mo : Int32} (hm : mo ≤ 6) {d : Nat} (hd : d < 6) (hdd : shF G u 3 = nI d) (hR : RtAt h w B) : Spec l D cA N0 m_X6_explore 5 0 0 [.ref w, .ref g, .ref (sad g u), .int mo] h (fun r h' => r = none ∧ RtAt h' w (bway G u d mo B.2.1) ∧ Frm h h' w 4) := by
  refine Spec.of (L := [some (.ref w), some (.ref g), some (.ref (sad g u)), some (.int mo), none, none]) (by decide) rfl (Nat.le_of_ble_eq_true rfl) ?_
  have r0 := hR.1
  have r1 := hR.2.1
  have r2 := hR.2.2.1
  have r3 := hR.2.2.2
  refine R_aload_n0 (pc := 0) dX6_explore_0 ?_
  refine G_X6_13 (pc := 1) dX6_explore_1 (by assumption) ?_
  refine R_iconst (pc := 4) (v := (-1)) dX6_explore_4 (by decide) ?_
  refine R_callS2 (pc := 5) cal_J7_fill_53178 kw529 kw530 dX6_explore_5 (c_J7_fill_53178 (by decide) r1) (by decide) (Nat.le_of_ble_eq_true rfl) ?_
  rintro _ h1 ⟨rfl, e1⟩
  have fr1 : Frm h h1 w 4 := Frm.of e1 (by omega) (by omega)
  have r0a := (show h1.2 w = h.2 w by rw [e1, hput_ne _ _ (by omega)]).trans r0
  have r2a := (show h1.2 (w + 2) = h.2 (w + 2) by rw [e1, hput_ne _ _ (by omega)]).trans r2
  have r3a := (show h1.2 (w + 3) = h.2 (w + 3) by rw [e1, hput_ne _ _ (by omega)]).trans r3
  have r1a : h1.2 (w + 1) = some (.inl (0, 486, .inl (fun _ => -1))) := by rw [e1]; exact hput_at _ _ _
  refine R_aload_n0 (pc := 8) dX6_explore_8 ?_
  refine G_X6_20 (pc := 9) dX6_explore_9 (by assumption) ?_
  refine R_iconst (pc := 12) (v := (-1)) dX6_explore_12 (by decide) ?_
  refine R_callS2 (pc := 13) cal_J7_fill_53178 kw529 kw530 dX6_explore_13 (c_J7_fill_53178 (by decide) r3a) (by decide) (Nat.le_of_ble_eq_true rfl) ?_
  rintro _ h2 ⟨rfl, e2⟩
  have fr2 := fr1.tr (Frm.of e2 (by omega) (by omega) : Frm h1 h2 w 4)
  have r0b := (show h2.2 w = h1.2 w by rw [e2, hput_ne _ _ (by omega)]).trans r0a
  have r1b := (show h2.2 (w + 1) = h1.2 (w + 1) by rw [e2, hput_ne _ _ (by omega)]).trans r1a
  have r2b := (show h2.2 (w + 2) = h1.2 (w + 2) by rw [e2, hput_ne _ _ (by omega)]).trans r2a
  have r3b : h2.2 (w + 3) = some (.inl (0, 81, .inl (fun _ => -1))) := by rw [e2]; exact hput_at _ _ _
  refine R_aload_n0 (pc := 16) dX6_explore_16 ?_
  refine R_iconst (pc := 17) (v := 0) dX6_explore_17 (by decide) ?_
  refine P_X6_29 (pc := 18) dX6_explore_18 (by assumption) (fun h1 e1 f1 => ?_)
  have fr3 := fr2.tr (Frm.of e1 (by omega) (by omega) : Frm h2 h1 w 4)
  have hR3 : RtAt h1 w (b0 B.2.1) := ⟨f1, by rw [e1, hput_ne _ _ (by omega)]; exact r1b, by rw [e1, hput_ne _ _ (by omega)]; exact r2b, by rw [e1, hput_ne _ _ (by omega)]; exact r3b⟩
  have hG3 : GmAt h1 g G := gAt_keep hG (fun y z1 z2 => fr3.2 y (by omega))
  have hGs := hG3.sh hi
  refine R_aload_n0 (pc := 21) dX6_explore_21 ?_
  refine R_aload_n2 (pc := 22) dX6_explore_22 ?_
  refine G_X6_33 (pc := 23) dX6_explore_23 (by assumption) ?_
  refine R_aload_n2 (pc := 26) dX6_explore_26 ?_
  refine G_X6_38 (pc := 27) dX6_explore_27 (by assumption) ?_
  rw [hdd]
  refine R_iconst (pc := 30) (v := 0) dX6_explore_30 (by decide) ?_
  refine R_callV3 (pc := 31) (T := TX6) cal_X6_note kw532 kw534 kw14 dX6_explore_31 (c_X6_note (p := 0) hR3 (b0_ok _).sm hd (by decide)) (by decide) (Nat.le_of_ble_eq_true rfl) (ci := 4) rfl hR3.1 ?_
  rintro _ h4 ⟨rfl, hR4, fr4⟩
  refine R_iconst (pc := 34) (v := 0) dX6_explore_34 (by decide) ?_
  refine R_istore4 (pc := 35) dX6_explore_35 rfl (by decide) ?_
  exact L_X6_explore hG hi hgw hm 486 0 _ _ _ rfl (bnote_ok (b0_ok _) hd (by decide)) hR4 (fr3.tr fr4) (Or.inl rfl)

set_option maxHeartbeats 4000000 in
set_option maxRecDepth 100000 in
theorem c_X6_bestPath_n (hR : RtAt h w B) (hB : Bok B) {k : Nat} (hk : k < 81) (hq : B.2.2.1 k = none) : Spec l D cA N0 m_X6_bestPath 1 0 0 [.ref w, .int (nI k)] h (fun r h' => r = some (.int (nI (bbest B k))) ∧ h' = h) := by
  refine Spec.of (L := [some (.ref w), some (.int (nI k)), none]) (by decide) rfl (Nat.le_of_ble_eq_true rfl) ?_
  have r0 := hR.1
  have r1 := hR.2.1
  have r2 := hR.2.2.1
  have r3 := hR.2.2.2
  have hcl : (nI k).toNatClampNeg = k := nI_clamp (by omega)
  have hxe : 0 ≤ nI k ∧ nI k < 81 := ⟨nI_pos' (by omega), nI_lt hk (by decide)⟩
  refine R_iload_n1 (pc := 0) dX6_bestPath_0 ?_
  refine R_callS1 (pc := 1) cal_X2_exists kw536 kw405 dX6_bestPath_1 c_X2_exists (by decide) (Nat.le_of_ble_eq_true rfl) ?_
  rintro _ _ ⟨rfl, rfl⟩
  refine R_ifb_eq (pc := 4) 16 dX6_bestPath_4 (by decide) (fun c_4 => absurd c_4 (fun z => z hxe)) (fun c_4 => ?_)
  refine R_aload_n0 (pc := 7) dX6_bestPath_7 ?_
  refine G_X6_20 (pc := 8) dX6_bestPath_8 (by assumption) ?_
  refine R_iload_n1 (pc := 11) dX6_bestPath_11 ?_
  refine R_iald (pc := 12) dX6_bestPath_12 (by assumption) (in_n hk (by decide)) ?_
  rw [hcl, hq, show eo none = -1 from rfl]
  refine R_goto (pc := 13) 17 dX6_bestPath_13 (by decide) ?_
  refine R_istore_n2 (pc := 17) dX6_bestPath_17 rfl (by decide) ?_
  refine R_iload_n2 (pc := 18) dX6_bestPath_18 ?_
  refine R_if_lt (pc := 19) 40 dX6_bestPath_19 (by decide) (fun c_19 => ?_) (fun c_19 => absurd (by decide) c_19)
  refine R_iconst (pc := 40) (v := 0) dX6_bestPath_40 (by decide) ?_
  refine R_iret (pc := 41) rfl rfl dX6_bestPath_41 ?_
  exact ⟨by rw [bbest_n hq]; rfl, rfl⟩

set_option maxHeartbeats 4000000 in
set_option maxRecDepth 100000 in
theorem c_X6_bestPath_s (hR : RtAt h w B) (hB : Bok B) {k : Nat} (hk : k < 81) {pl : Nat} (hq : B.2.2.1 k = some pl) : Spec l D cA N0 m_X6_bestPath 1 0 0 [.ref w, .int (nI k)] h (fun r h' => r = some (.int (nI (bbest B k))) ∧ h' = h) := by
  refine Spec.of (L := [some (.ref w), some (.int (nI k)), none]) (by decide) rfl (Nat.le_of_ble_eq_true rfl) ?_
  have r0 := hR.1
  have r1 := hR.2.1
  have r2 := hR.2.2.1
  have r3 := hR.2.2.2
  have hcl : (nI k).toNatClampNeg = k := nI_clamp (by omega)
  have hxe : 0 ≤ nI k ∧ nI k < 81 := ⟨nI_pos' (by omega), nI_lt hk (by decide)⟩
  obtain ⟨p1, p2, p, p3⟩ := hB.2.2.2 k pl hq
  have hcl2 : (nI pl).toNatClampNeg = pl := nI_clamp (by omega)
  refine R_iload_n1 (pc := 0) dX6_bestPath_0 ?_
  refine R_callS1 (pc := 1) cal_X2_exists kw536 kw405 dX6_bestPath_1 c_X2_exists (by decide) (Nat.le_of_ble_eq_true rfl) ?_
  rintro _ _ ⟨rfl, rfl⟩
  refine R_ifb_eq (pc := 4) 16 dX6_bestPath_4 (by decide) (fun c_4 => absurd c_4 (fun z => z hxe)) (fun c_4 => ?_)
  refine R_aload_n0 (pc := 7) dX6_bestPath_7 ?_
  refine G_X6_20 (pc := 8) dX6_bestPath_8 (by assumption) ?_
  refine R_iload_n1 (pc := 11) dX6_bestPath_11 ?_
  refine R_iald (pc := 12) dX6_bestPath_12 (by assumption) (in_n hk (by decide)) ?_
  rw [hcl, hq, show eo (some pl) = nI pl from rfl]
  refine R_goto (pc := 13) 17 dX6_bestPath_13 (by decide) ?_
  refine R_istore_n2 (pc := 17) dX6_bestPath_17 rfl (by decide) ?_
  refine R_iload_n2 (pc := 18) dX6_bestPath_18 ?_
  refine R_if_lt (pc := 19) 40 dX6_bestPath_19 (by decide) (fun c_19 => absurd c_19 (Int32.not_lt.mpr (nI_pos' (show pl < 2 ^ 31 by omega)))) (fun c_19 => ?_)
  refine R_iload_n2 (pc := 22) dX6_bestPath_22 ?_
  refine R_aload_n0 (pc := 23) dX6_bestPath_23 ?_
  refine G_X6_13 (pc := 24) dX6_bestPath_24 (by assumption) ?_
  refine R_alen (pc := 27) (v := 486) dX6_bestPath_27 (by assumption) (by decide) rfl ?_
  refine R_icmp_ge (pc := 28) 40 dX6_bestPath_28 (by decide) (fun c_28 => absurd c_28 (nI_ge p1 (by decide))) (fun c_28 => ?_)
  refine R_aload_n0 (pc := 31) dX6_bestPath_31 ?_
  refine G_X6_13 (pc := 32) dX6_bestPath_32 (by assumption) ?_
  refine R_iload_n2 (pc := 35) dX6_bestPath_35 ?_
  refine R_iald (pc := 36) dX6_bestPath_36 (by assumption) (in_n p1 (by decide)) ?_
  rw [hcl2, p3]
  refine R_goto (pc := 37) 41 dX6_bestPath_37 (by decide) ?_
  refine R_iret (pc := 41) rfl rfl dX6_bestPath_41 ?_
  exact ⟨by rw [bbest_s hq, p3]; rfl, rfl⟩

theorem c_X6_bestPath (hR : RtAt h w B) (hB : Bok B) {k : Nat} (hk : k < 81) : Spec l D cA N0 m_X6_bestPath 1 0 0 [.ref w, .int (nI k)] h (fun r h' => r = some (.int (nI (bbest B k))) ∧ h' = h) := by
  cases hq : B.2.2.1 k with
  | none => exact c_X6_bestPath_n hR hB hk hq
  | some pl => exact c_X6_bestPath_s hR hB hk hq

set_option maxHeartbeats 4000000 in
set_option maxRecDepth 100000 in
theorem c_X6_headingAt (hR : RtAt h w B) (hB : Bok B) {k : Nat} (hk : k < 81) {pl : Nat} (hq : B.2.2.1 k = some pl) : Spec l D cA N0 m_X6_headingAt 1 0 0 [.ref w, .int (nI k)] h (fun r h' => r = some (.int (nI (bhead B k))) ∧ h' = h) := by
  refine Spec.of (L := [some (.ref w), some (.int (nI k))]) (by decide) rfl (Nat.le_of_ble_eq_true rfl) ?_
  have r0 := hR.1
  have r1 := hR.2.1
  have r2 := hR.2.2.1
  have r3 := hR.2.2.2
  have hcl : (nI k).toNatClampNeg = k := nI_clamp (by omega)
  have hxe : 0 ≤ nI k ∧ nI k < 81 := ⟨nI_pos' (by omega), nI_lt hk (by decide)⟩
  obtain ⟨p1, p2, p, p3⟩ := hB.2.2.2 k pl hq
  refine R_iload_n1 (pc := 0) dX6_headingAt_0 ?_
  refine R_callS1 (pc := 1) cal_X2_exists kw536 kw405 dX6_headingAt_1 c_X2_exists (by decide) (Nat.le_of_ble_eq_true rfl) ?_
  rintro _ _ ⟨rfl, rfl⟩
  refine R_ifb_eq (pc := 4) 19 dX6_headingAt_4 (by decide) (fun c_4 => absurd c_4 (fun z => z hxe)) (fun c_4 => ?_)
  refine R_aload_n0 (pc := 7) dX6_headingAt_7 ?_
  refine G_X6_20 (pc := 8) dX6_headingAt_8 (by assumption) ?_
  refine R_iload_n1 (pc := 11) dX6_headingAt_11 ?_
  refine R_iald (pc := 12) dX6_headingAt_12 (by assumption) (in_n hk (by decide)) ?_
  rw [hcl, hq, show eo (some pl) = nI pl from rfl]
  refine R_bipush (pc := 13) (v := 6) dX6_headingAt_13 (by decide) ?_
  rw [show (6 : Int32) = nI 6 from rfl]
  refine R_irem (pc := 15) dX6_headingAt_15 (by decide) ?_
  refine R_goto (pc := 16) 21 dX6_headingAt_16 (by decide) ?_
  refine R_iret (pc := 21) rfl rfl dX6_headingAt_21 ?_
  exact ⟨by rw [pk_rem (show pl < 2 ^ 31 by omega) (by decide) (by decide), bhead, hq]; rfl, rfl⟩

set_option maxHeartbeats 4000000 in
set_option maxRecDepth 100000 in
theorem c_X6_tellOfWay (hR : RtAt h w B) (hB : Bok B) {k : Nat} (hk : k < 81) {x : Int32} : Spec l D cA N0 m_X6_tellOfWay 2 0 0 [.ref w, .int (nI k), .int x] h (fun r h' => r = some (.int (btell B k x)) ∧ h' = h) := by
  refine Spec.of (L := [some (.ref w), some (.int (nI k)), some (.int x), none]) (by decide) rfl (Nat.le_of_ble_eq_true rfl) ?_
  have r0 := hR.1
  have hbl := bbest_lt hB k
  refine R_aload_n0 (pc := 0) dX6_tellOfWay_0 ?_
  refine R_iload_n1 (pc := 1) dX6_tellOfWay_1 ?_
  refine R_callV1 (pc := 2) (T := TX6) cal_X6_bestPath kw556 kw558 kw16 dX6_tellOfWay_2 (c_X6_bestPath hR hB (by omega)) (by decide) (Nat.le_of_ble_eq_true rfl) (ci := 4) rfl (by assumption) ?_
  rintro _ _ ⟨rfl, rfl⟩
  refine R_istore_n3 (pc := 5) dX6_tellOfWay_5 rfl (by decide) ?_
  refine R_iload_n3 (pc := 6) dX6_tellOfWay_6 ?_
  refine R_if_ne (pc := 7) 13 dX6_tellOfWay_7 (by decide) (fun c_7 => ?_) (fun c_7 => ?_)
  · skip
    have hb0 : ¬ bbest B k = 0 := fun z => c_7 (by rw [z]; rfl)
    obtain ⟨pl, hpl⟩ : ∃ pl, B.2.2.1 k = some pl := by
      cases hq : B.2.2.1 k with
      | none => exact absurd (bbest_n hq) hb0
      | some pl => exact ⟨pl, rfl⟩
    refine R_iload_n2 (pc := 13) dX6_tellOfWay_13 ?_
    refine R_if_ne (pc := 14) 19 dX6_tellOfWay_14 (by decide) (fun c_14 => ?_) (fun c_14 => ?_)
    · skip
      refine R_iload_n2 (pc := 19) dX6_tellOfWay_19 ?_
      refine R_iconst (pc := 20) (v := 1) dX6_tellOfWay_20 (by decide) ?_
      refine R_icmp_ne (pc := 21) 31 dX6_tellOfWay_21 (by decide) (fun c_21 => ?_) (fun c_21 => ?_)
      · skip
        refine R_aload_n0 (pc := 31) dX6_tellOfWay_31 ?_
        refine R_iload_n1 (pc := 32) dX6_tellOfWay_32 ?_
        refine R_callV1 (pc := 33) (T := TX6) cal_X6_headingAt kw594 kw596 kw17 dX6_tellOfWay_33 (c_X6_headingAt hR hB hk hpl) (by decide) (Nat.le_of_ble_eq_true rfl) (ci := 4) rfl (by assumption) ?_
        rintro _ _ ⟨rfl, rfl⟩
        refine R_iret (pc := 36) rfl rfl dX6_tellOfWay_36 ?_
        exact ⟨by rw [btell, if_neg hb0, if_neg c_14, if_neg c_21], rfl⟩
      · skip
        refine R_iload_n3 (pc := 24) dX6_tellOfWay_24 ?_
        refine R_callS1 (pc := 25) cal_X5_stepsOf kw538 kw539 dX6_tellOfWay_25 (c_X5_stepsOf (show bbest B k < 2 ^ 31 by omega)) (by decide) (Nat.le_of_ble_eq_true rfl) ?_
        rintro _ _ ⟨rfl, rfl⟩
        refine R_goto (pc := 28) 36 dX6_tellOfWay_28 (by decide) ?_
        refine R_iret (pc := 36) rfl rfl dX6_tellOfWay_36 ?_
        exact ⟨by rw [btell, if_neg hb0, if_neg c_14, if_pos c_21], rfl⟩
    · skip
      refine R_iload_n3 (pc := 17) dX6_tellOfWay_17 ?_
      refine R_iret (pc := 18) rfl rfl dX6_tellOfWay_18 ?_
      exact ⟨by rw [btell, if_neg hb0, if_pos c_14], rfl⟩
  · skip
    have hb0 : bbest B k = 0 := (nI_eq (show bbest B k < 2 ^ 31 by omega) (by decide)).mp c_7
    refine R_bipush (pc := 10) (v := (-9)) dX6_tellOfWay_10 (by decide) ?_
    refine R_iret (pc := 12) rfl rfl dX6_tellOfWay_12 ?_
    exact ⟨by rw [btell, if_pos hb0], rfl⟩

set_option maxHeartbeats 4000000 in
set_option maxRecDepth 100000 in
theorem L_X6_reachedHexes (hR : RtAt h w B) (hB : Bok B) : ∀ (n i : Nat), i + n = 81 → True → RunM l D cA N0 m_X6_reachedHexes 2 0 0 (fun r h' => r = some (.int (nI (breach B 81))) ∧ h' = h) h 0 0 4 [some (.ref w), some (.int (nI (breach B i))), some (.int (nI i))] [] := by
  intro n
  induction n with
  | zero =>
    intro i hin hinv 
    have hie : i = 81 := by omega
    subst hie
    have r0 := hR.1
    refine R_iload_n2 (pc := 4) dX6_reachedHexes_4 ?_
    refine R_bipush (pc := 5) (v := 81) dX6_reachedHexes_5 (by decide) ?_
    refine R_icmp_ge (pc := 7) 27 dX6_reachedHexes_7 (by decide) (fun c_7 => ?_) (fun c_7 => absurd (by decide) c_7)
    refine R_iload_n1 (pc := 27) dX6_reachedHexes_27 ?_
    refine R_iret (pc := 28) rfl rfl dX6_reachedHexes_28 ?_
    exact ⟨rfl, rfl⟩
  | succ n ih =>
    intro i hin hinv 
    have hlt : i < 81 := by omega
    have r0 := hR.1
    refine R_iload_n2 (pc := 4) dX6_reachedHexes_4 ?_
    refine R_bipush (pc := 5) (v := 81) dX6_reachedHexes_5 (by decide) ?_
    refine R_icmp_ge (pc := 7) 27 dX6_reachedHexes_7 (by decide) (fun c_7 => absurd c_7 (nI_ge hlt (by decide))) (fun c_7 => ?_)
    refine R_aload_n0 (pc := 10) dX6_reachedHexes_10 ?_
    refine R_iload_n2 (pc := 11) dX6_reachedHexes_11 ?_
    refine R_callV1 (pc := 12) (T := TX6) cal_X6_bestPath kw556 kw558 kw16 dX6_reachedHexes_12 (c_X6_bestPath hR hB (by omega)) (by decide) (Nat.le_of_ble_eq_true rfl) (ci := 4) rfl (by assumption) ?_
    rintro _ _ ⟨rfl, rfl⟩
    refine R_if_le (pc := 15) 21 dX6_reachedHexes_15 (by decide) (fun c_15 => ?_) (fun c_15 => ?_)
    · skip
      have d_15 := Int32.not_lt.mpr c_15
      have hb1 : ¬ 0 < bbest B i := fun z => absurd ((nI_ltI (show 0 < 2 ^ 31 by decide) (by have := bbest_lt hB i; omega)).mpr z) (Int32.not_lt.mpr c_15)
      refine R_iinc2 (pc := 21) dX6_reachedHexes_21 rfl (by decide) ?_
      refine R_goto (pc := 24) 4 dX6_reachedHexes_24 (by decide) ?_
      rw [nI_s]
      refine Run.cast (ih (i + 1) (by omega) trivial) rfl rfl rfl rfl ?_ rfl
      rw [breach, if_neg hb1, Nat.add_zero]
    · skip
      have d_15 := Int32.not_le.mp c_15
      have hb1 : 0 < bbest B i := (nI_ltI (show 0 < 2 ^ 31 by decide) (by have := bbest_lt hB i; omega)).mp (Int32.not_le.mp c_15)
      refine R_iinc1 (pc := 18) dX6_reachedHexes_18 rfl (by decide) ?_
      refine R_iinc2 (pc := 21) dX6_reachedHexes_21 rfl (by decide) ?_
      refine R_goto (pc := 24) 4 dX6_reachedHexes_24 (by decide) ?_
      rw [nI_s, nI_s]
      refine Run.cast (ih (i + 1) (by omega) trivial) rfl rfl rfl rfl ?_ rfl
      rw [breach, if_pos hb1]

set_option maxHeartbeats 4000000 in
set_option maxRecDepth 100000 in
theorem c_X6_reachedHexes (hR : RtAt h w B) (hB : Bok B) : Spec l D cA N0 m_X6_reachedHexes 2 0 0 [.ref w] h (fun r h' => r = some (.int (nI (breach B 81))) ∧ h' = h) := by
  refine Spec.of (L := [some (.ref w), none, none]) (by decide) rfl (Nat.le_of_ble_eq_true rfl) ?_
  refine R_iconst (pc := 0) (v := 0) dX6_reachedHexes_0 (by decide) ?_
  refine R_istore_n1 (pc := 1) dX6_reachedHexes_1 rfl (by decide) ?_
  refine R_iconst (pc := 2) (v := 0) dX6_reachedHexes_2 (by decide) ?_
  refine R_istore_n2 (pc := 3) dX6_reachedHexes_3 rfl (by decide) ?_
  exact L_X6_reachedHexes hR hB 81 0 (Nat.zero_add 81) trivial

end LV16
