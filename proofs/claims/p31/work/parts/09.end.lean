/-! THE END OF A TURN; copies -/
section LV9
variable {l : Launch} {D : va_G} {cA : Nat → ClassId} {N0 : Nat} {h : AH} {g : Nat} {G : Gm}
set_option maxHeartbeats 4000000 in
set_option maxRecDepth 100000 in
theorem L_X1_endTurn2  : ∀ (n i : Nat), i + n = 8 → True → ∀ (G1 : Gm) (h1 : AH), h1 = gput h g G1 → RunM l D cA N0 m_X1_endTurn 3 0 0 (fun r h' => r = some (.int ((k_turnover (kg k_f2 G1 i n)).1 0)) ∧ h' = gput h g (k_turnover (kg k_f2 G1 i n))) h1 0 0 83 [some (.ref g), some (.ref (gA g 9)), some (.int 8), some (.int (nI i)), none, none] [] := by
  intro n
  induction n with
  | zero =>
    intro i hin hinv G1 h1 q1
    have hie : i = 8 := by omega
    subst hie
    have hG1 := gAt q1
    have go := hG1.o0
    have gc0 := hG1.c0
    have gc1 := hG1.c1
    have gi := hG1.is
    have gs := hG1.sa
    refine R_iload_n3 (pc := 83) dX1_endTurn_83 ?_
    refine R_iload_n2 (pc := 84) dX1_endTurn_84 ?_
    refine R_icmp_ge (pc := 85) 105 dX1_endTurn_85 (by decide) (fun c_85 => ?_) (fun c_85 => absurd (by decide) c_85)
    refine R_aload_n0 (pc := 105) dX1_endTurn_105 ?_
    refine R_iconst (pc := 106) (v := 0) dX1_endTurn_106 (by decide) ?_
    refine P_X1_43 (pc := 107) dX1_endTurn_107 (by decide) (by assumption) (fun h1 e1 f1 => ?_)
    have q1 := gstep_g q1 e1 (by decide)
    have hG1 := gAt q1
    have go1 := hG1.o0
    have gca1 := hG1.c0
    have gcb1 := hG1.c1
    have gi1 := hG1.is
    have gs1 := hG1.sa
    refine R_aload_n0 (pc := 110) dX1_endTurn_110 ?_
    refine R_dup (pc := 111) dX1_endTurn_111 rfl ?_
    refine G_X1_40 (pc := 112) dX1_endTurn_112 (by assumption) ?_
    refine R_iconst (pc := 115) (v := 1) dX1_endTurn_115 (by decide) ?_
    refine R_iadd (pc := 116) dX1_endTurn_116 ?_
    refine P_X1_40 (pc := 117) dX1_endTurn_117 (by assumption) (fun h2 e2 f2 => ?_)
    have q2 := gstep_g q1 e2 (by decide)
    have hG2 := gAt q2
    have go2 := hG2.o0
    have gca2 := hG2.c0
    have gcb2 := hG2.c1
    have gi2 := hG2.is
    have gs2 := hG2.sa
    refine R_aload_n0 (pc := 120) dX1_endTurn_120 ?_
    refine G_X1_40 (pc := 121) dX1_endTurn_121 (by assumption) ?_
    refine R_iret (pc := 124) rfl rfl dX1_endTurn_124 ?_
    exact ⟨rfl, q2⟩
  | succ n ih =>
    intro i hin hinv G1 h1 q1
    have hlt : i < 8 := by omega
    have hG1 := gAt q1
    have go := hG1.o0
    have gc0 := hG1.c0
    have gc1 := hG1.c1
    have gi := hG1.is
    have gs := hG1.sa
    refine R_iload_n3 (pc := 83) dX1_endTurn_83 ?_
    refine R_iload_n2 (pc := 84) dX1_endTurn_84 ?_
    refine R_icmp_ge (pc := 85) 105 dX1_endTurn_85 (by decide) (fun c_85 => absurd c_85 (nI_ge hlt (by decide))) (fun c_85 => ?_)
    refine R_aload_n1 (pc := 88) dX1_endTurn_88 ?_
    refine R_iload_n3 (pc := 89) dX1_endTurn_89 ?_
    refine R_ship (pc := 90) dX1_endTurn_90 (by assumption) (by assumption) ?_
    have gsi := hG1.sh hlt
    refine R_astore4 (pc := 91) dX1_endTurn_91 rfl (by decide) ?_
    refine R_aload4 (pc := 93) dX1_endTurn_93 ?_
    refine R_iconst (pc := 95) (v := 0) dX1_endTurn_95 (by decide) ?_
    refine P_X1_186 (pc := 96) dX1_endTurn_96 (by assumption) (fun h1 e1 f1 => ?_)
    have q1 := gstep_s q1 e1 (by assumption) rfl
    have hG1 := gAt q1
    have go1 := hG1.o0
    have gca1 := hG1.c0
    have gcb1 := hG1.c1
    have gi1 := hG1.is
    have gs1 := hG1.sa
    have gsh1_0 := hG1.sh hlt
    refine R_iinc3 (pc := 99) dX1_endTurn_99 rfl (by decide) ?_
    refine R_goto (pc := 102) 83 dX1_endTurn_102 (by decide) ?_
    rw [nI_s]
    refine R_weak (by repeat (first | exact trivial | refine ⟨rfl, ?_⟩ | refine ⟨trivial, ?_⟩)) (R_post (fun a h1 q9 => ?_) (ih (i + 1) (by omega) trivial _ _ q1))
    rw [kg_s]
    exact q9

set_option maxHeartbeats 4000000 in
set_option maxRecDepth 100000 in
theorem L_X1_endTurn1  : ∀ (n i : Nat), i + n = 8 → True → ∀ (G1 : Gm) (h1 : AH), h1 = gput h g G1 → RunM l D cA N0 m_X1_endTurn 3 0 0 (fun r h' => r = some (.int ((k_turnover (kg k_f2 (kg k_f1 G1 i n) 0 8)).1 0)) ∧ h' = gput h g (k_turnover (kg k_f2 (kg k_f1 G1 i n) 0 8))) h1 0 0 20 [some (.ref g), some (.ref (gA g 9)), some (.int 8), some (.int (nI i)), none, none] [] := by
  intro n
  induction n with
  | zero =>
    intro i hin hinv G1 h1 q1
    have hie : i = 8 := by omega
    subst hie
    have hG1 := gAt q1
    have go := hG1.o0
    have gc0 := hG1.c0
    have gc1 := hG1.c1
    have gi := hG1.is
    have gs := hG1.sa
    refine R_iload_n3 (pc := 20) dX1_endTurn_20 ?_
    refine R_iload_n2 (pc := 21) dX1_endTurn_21 ?_
    refine R_icmp_ge (pc := 22) 73 dX1_endTurn_22 (by decide) (fun c_22 => ?_) (fun c_22 => absurd (by decide) c_22)
    refine R_aload_n0 (pc := 73) dX1_endTurn_73 ?_
    refine G_X1_33 (pc := 74) dX1_endTurn_74 (by assumption) ?_
    refine R_astore_n1 (pc := 77) dX1_endTurn_77 rfl (by decide) ?_
    refine R_aload_n1 (pc := 78) dX1_endTurn_78 ?_
    refine R_alen (pc := 79) (v := 8) dX1_endTurn_79 (by assumption) (by decide) rfl ?_
    refine R_istore_n2 (pc := 80) dX1_endTurn_80 rfl (by decide) ?_
    refine R_iconst (pc := 81) (v := 0) dX1_endTurn_81 (by decide) ?_
    refine R_istore_n3 (pc := 82) dX1_endTurn_82 rfl (by decide) ?_
    exact L_X1_endTurn2 8 0 rfl trivial _ _ q1
  | succ n ih =>
    intro i hin hinv G1 h1 q1
    have hlt : i < 8 := by omega
    have hG1 := gAt q1
    have go := hG1.o0
    have gc0 := hG1.c0
    have gc1 := hG1.c1
    have gi := hG1.is
    have gs := hG1.sa
    refine R_iload_n3 (pc := 20) dX1_endTurn_20 ?_
    refine R_iload_n2 (pc := 21) dX1_endTurn_21 ?_
    refine R_icmp_ge (pc := 22) 73 dX1_endTurn_22 (by decide) (fun c_22 => absurd c_22 (nI_ge hlt (by decide))) (fun c_22 => ?_)
    refine R_aload_n1 (pc := 25) dX1_endTurn_25 ?_
    refine R_iload_n3 (pc := 26) dX1_endTurn_26 ?_
    refine R_ship (pc := 27) dX1_endTurn_27 (by assumption) (by assumption) ?_
    have gsi := hG1.sh hlt
    refine R_astore4 (pc := 28) dX1_endTurn_28 rfl (by decide) ?_
    refine R_aload_n0 (pc := 30) dX1_endTurn_30 ?_
    refine R_aload4 (pc := 31) dX1_endTurn_31 ?_
    refine G_X1_223 (pc := 33) dX1_endTurn_33 (by assumption) ?_
    refine R_callV1 (pc := 36) (T := TX1) cal_X1_known kw281 kw282 kw283 dX1_endTurn_36 (c_X1_known (by assumption)) (by decide) (Nat.le_of_ble_eq_true rfl) (ci := 1) rfl (by assumption) ?_
    rintro _ _ ⟨⟨z36, hz36, rfl⟩, rfl⟩
    rcases k_known_cases _ _ with ⟨kv36, kz36⟩ | ⟨k36, kl36, kx36, kv36, kz36⟩ <;> (rw [kz36] at hz36; subst hz36)
    · skip
      refine R_astoreN5 (pc := 39) dX1_endTurn_39 rfl (by decide) ?_
      refine R_aloadN5 (pc := 41) dX1_endTurn_41 ?_
      refine R_ifnullN (pc := 43) 67 dX1_endTurn_43 (by decide) ?_
      refine R_iinc3 (pc := 67) dX1_endTurn_67 rfl (by decide) ?_
      refine R_goto (pc := 70) 20 dX1_endTurn_70 (by decide) ?_
      rw [nI_s]
      refine R_weak (by repeat (first | exact trivial | refine ⟨rfl, ?_⟩ | refine ⟨trivial, ?_⟩)) (R_post (fun a h1 q9 => ?_) (ih (i + 1) (by omega) trivial _ _ q1))
      rw [kg_s k_f1 G1 i n, show k_f1 G1 i = G1 from by simp only [k_f1, kz36]]
      exact q9
    · skip
      have kg36 := hG1.sh kl36
      refine R_astore5 (pc := 39) dX1_endTurn_39 rfl (by decide) ?_
      refine R_aload5 (pc := 41) dX1_endTurn_41 ?_
      refine R_ifnull (pc := 43) dX1_endTurn_43 ?_
      refine R_aload4 (pc := 46) dX1_endTurn_46 ?_
      refine G_X1_94 (pc := 48) dX1_endTurn_48 (by assumption) ?_
      refine R_aload5 (pc := 51) dX1_endTurn_51 ?_
      refine G_X1_94 (pc := 53) dX1_endTurn_53 (by assumption) ?_
      refine R_icmp_ge (pc := 56) 67 dX1_endTurn_56 (by decide) (fun c_56 => ?_) (fun c_56 => ?_)
      · skip
        have d_56 := Int32.not_lt.mpr c_56
        refine R_iinc3 (pc := 67) dX1_endTurn_67 rfl (by decide) ?_
        refine R_goto (pc := 70) 20 dX1_endTurn_70 (by decide) ?_
        rw [nI_s]
        refine R_weak (by repeat (first | exact trivial | refine ⟨rfl, ?_⟩ | refine ⟨trivial, ?_⟩)) (R_post (fun a h1 q9 => ?_) (ih (i + 1) (by omega) trivial _ _ q1))
        rw [kg_s k_f1 G1 i n, show k_f1 G1 i = G1 from by simp only [k_f1, kz36, if_neg (Int32.not_lt.mpr c_56)]]
        exact q9
      · skip
        have d_56 := Int32.not_le.mp c_56
        refine R_aload_n0 (pc := 59) dX1_endTurn_59 ?_
        refine R_aload4 (pc := 60) dX1_endTurn_60 ?_
        refine R_aload5 (pc := 62) dX1_endTurn_62 ?_
        refine R_callV2 (pc := 64) (T := TX1) cal_X1_fight kw285 kw287 kw0 dX1_endTurn_64 (c_X1_fight (by assumption) (by assumption) (by assumption)) (by decide) (Nat.le_of_ble_eq_true rfl) (ci := 1) rfl (by assumption) ?_
        rintro _ h1 ⟨rfl, e1⟩
        have q1 := gstep_G q1 e1
        have hG1 := gAt q1
        have go1 := hG1.o0
        have gca1 := hG1.c0
        have gcb1 := hG1.c1
        have gi1 := hG1.is
        have gs1 := hG1.sa
        have gsh1_0 := hG1.sh hlt
        have gsh1_1 := hG1.sh kl36
        refine R_iinc3 (pc := 67) dX1_endTurn_67 rfl (by decide) ?_
        refine R_goto (pc := 70) 20 dX1_endTurn_70 (by decide) ?_
        rw [nI_s]
        refine R_weak (by repeat (first | exact trivial | refine ⟨rfl, ?_⟩ | refine ⟨trivial, ?_⟩)) (R_post (fun a h1 q9 => ?_) (ih (i + 1) (by omega) trivial _ _ q1))
        rw [kg_s k_f1 G1 i n, show k_f1 G1 i = k_fight G1 i k36 from by simp only [k_f1, kz36, if_pos d_56]]
        exact q9

set_option maxHeartbeats 4000000 in
set_option maxRecDepth 100000 in
theorem c_X1_endTurn (hG : GmAt h g G)  : Spec l D cA N0 m_X1_endTurn 3 0 0 [.ref g] h (fun r h' => r = some (.int (k_end G).1) ∧ h' = gput h g (k_end G).2) := by
  refine Spec.of (L := [some (.ref g), none, none, none, none, none]) (by decide) rfl (Nat.le_of_ble_eq_true rfl) ?_
  have go := hG.o0
  have gc0 := hG.c0
  have gc1 := hG.c1
  have gi := hG.is
  have gs := hG.sa
  have q0 := (gput_self hG).symm
  refine R_aload_n0 (pc := 0) dX1_endTurn_0 ?_
  refine G_X1_43 (pc := 1) dX1_endTurn_1 (by assumption) ?_
  refine R_if_ne (pc := 4) 10 dX1_endTurn_4 (by decide) (fun c_4 => ?_) (fun c_4 => ?_)
  · skip
    refine R_aload_n0 (pc := 10) dX1_endTurn_10 ?_
    refine G_X1_33 (pc := 11) dX1_endTurn_11 (by assumption) ?_
    refine R_astore_n1 (pc := 14) dX1_endTurn_14 rfl (by decide) ?_
    refine R_aload_n1 (pc := 15) dX1_endTurn_15 ?_
    refine R_alen (pc := 16) (v := 8) dX1_endTurn_16 (by assumption) (by decide) rfl ?_
    refine R_istore_n2 (pc := 17) dX1_endTurn_17 rfl (by decide) ?_
    refine R_iconst (pc := 18) (v := 0) dX1_endTurn_18 (by decide) ?_
    refine R_istore_n3 (pc := 19) dX1_endTurn_19 rfl (by decide) ?_
    rw [show k_end G = ((k_turnover (kg k_f2 (kg k_f1 G 0 8) 0 8)).1 0, k_turnover (kg k_f2 (kg k_f1 G 0 8) 0 8)) from if_neg c_4]
    exact L_X1_endTurn1 8 0 rfl trivial _ _ q0
  · skip
    refine R_bipush (pc := 7) (v := (-2)) dX1_endTurn_7 (by decide) ?_
    refine R_iret (pc := 9) rfl rfl dX1_endTurn_9 ?_
    exact ⟨by simp (decide := true) only [k_end, c_4, reduceCtorEq, if_true, if_false, reduceIte, and_true, true_and, and_false, false_and, and_self, or_true, true_or, or_false, false_or, or_self, not_true, not_false_iff]; try rfl, q0.trans (congrArg (gput _ g) (by simp (decide := true) only [k_end, c_4, reduceCtorEq, if_true, if_false, reduceIte, and_true, true_and, and_false, false_and, and_self, or_true, true_or, or_false, false_or, or_self, not_true, not_false_iff]; try rfl))⟩

end LV9
section CPY
variable {l : Launch} {D : va_G} {cA : Nat → ClassId} {N0 : Nat} {h : AH}
theorem ob0_upd (A : Nat → Nat) (F E : Nat → Int32) : ob0 A (upd (upd (upd F 0 (E 0)) 1 (E 1)) 2 (E 2)) = ob0 A E := rfl
set_option maxHeartbeats 4000000 in
set_option maxRecDepth 100000 in
theorem c_X0_copyFrom {a b : Nat} {A B : Nat → Nat} {Fv E : Nat → Int32} (ha : h.2 a = some (.inr (0, ob0 A Fv))) (hb : h.2 b = some (.inr (0, ob0 B E))) (hab : b ≠ a) : Spec l D cA N0 m_X0_copyFrom 0 0 0 [.ref a, .ref b] h (fun r h' => r = none ∧ h' = hput h a (.inr (0, ob0 A E))) := by
  refine Spec.of (L := [some (.ref a), some (.ref b)]) (by decide) rfl (Nat.le_of_ble_eq_true rfl) ?_
  refine R_aload_n0 (pc := 0) dX0_copyFrom_0 ?_
  refine R_aload_n1 (pc := 1) dX0_copyFrom_1 ?_
  refine G_X0_11 (pc := 2) dX0_copyFrom_2 (by assumption) ?_
  refine P_X0_11 (pc := 5) dX0_copyFrom_5 (by assumption) (fun h1 e1 f1 => ?_)
  have hb1 : h1.2 b = some (.inr (0, ob0 B E)) := by rw [e1, hput_ne _ _ hab]; first | exact hb | assumption
  refine R_aload_n0 (pc := 8) dX0_copyFrom_8 ?_
  refine R_aload_n1 (pc := 9) dX0_copyFrom_9 ?_
  refine G_X0_15 (pc := 10) dX0_copyFrom_10 (by assumption) ?_
  refine P_X0_15 (pc := 13) dX0_copyFrom_13 (by assumption) (fun h2 e2 f2 => ?_)
  have hb2 : h2.2 b = some (.inr (0, ob0 B E)) := by rw [e2, hput_ne _ _ hab]; first | exact hb | assumption
  refine R_aload_n0 (pc := 16) dX0_copyFrom_16 ?_
  refine R_aload_n1 (pc := 17) dX0_copyFrom_17 ?_
  refine G_X0_18 (pc := 18) dX0_copyFrom_18 (by assumption) ?_
  refine P_X0_18 (pc := 21) dX0_copyFrom_21 (by assumption) (fun h3 e3 f3 => ?_)
  have hb3 : h3.2 b = some (.inr (0, ob0 B E)) := by rw [e3, hput_ne _ _ hab]; first | exact hb | assumption
  refine R_vret (pc := 24) rfl dX0_copyFrom_24 ?_
  exact ⟨rfl, by rw [e3, e2, e1]; simp only [hput_hput]; rfl⟩

set_option maxHeartbeats 4000000 in
set_option maxRecDepth 100000 in
theorem c_X7_copyFrom {a b : Nat} {A B : Nat → Nat} {Fv E : Nat → Int32} (ha : h.2 a = some (.inr (5, ob5 A Fv))) (hb : h.2 b = some (.inr (5, ob5 B E))) (hab : b ≠ a) (h0 : Fv 0 = E 0) : Spec l D cA N0 m_X7_copyFrom 0 0 0 [.ref a, .ref b] h (fun r h' => r = none ∧ h' = hput h a (.inr (5, ob5 A E))) := by
  refine Spec.of (L := [some (.ref a), some (.ref b)]) (by decide) rfl (Nat.le_of_ble_eq_true rfl) ?_
  refine R_aload_n0 (pc := 0) dX7_copyFrom_0 ?_
  refine R_aload_n1 (pc := 1) dX7_copyFrom_1 ?_
  refine G_X7_18 (pc := 2) dX7_copyFrom_2 (by assumption) ?_
  refine P_X7_18 (pc := 5) dX7_copyFrom_5 (by assumption) (fun h1 e1 f1 => ?_)
  have hb1 : h1.2 b = some (.inr (5, ob5 B E)) := by rw [e1, hput_ne _ _ hab]; first | exact hb | assumption
  refine R_aload_n0 (pc := 8) dX7_copyFrom_8 ?_
  refine R_aload_n1 (pc := 9) dX7_copyFrom_9 ?_
  refine G_X7_21 (pc := 10) dX7_copyFrom_10 (by assumption) ?_
  refine P_X7_21 (pc := 13) dX7_copyFrom_13 (by assumption) (fun h2 e2 f2 => ?_)
  have hb2 : h2.2 b = some (.inr (5, ob5 B E)) := by rw [e2, hput_ne _ _ hab]; first | exact hb | assumption
  refine R_aload_n0 (pc := 16) dX7_copyFrom_16 ?_
  refine R_aload_n1 (pc := 17) dX7_copyFrom_17 ?_
  refine G_X7_24 (pc := 18) dX7_copyFrom_18 (by assumption) ?_
  refine P_X7_24 (pc := 21) dX7_copyFrom_21 (by assumption) (fun h3 e3 f3 => ?_)
  have hb3 : h3.2 b = some (.inr (5, ob5 B E)) := by rw [e3, hput_ne _ _ hab]; first | exact hb | assumption
  refine R_aload_n0 (pc := 24) dX7_copyFrom_24 ?_
  refine R_aload_n1 (pc := 25) dX7_copyFrom_25 ?_
  refine G_X7_27 (pc := 26) dX7_copyFrom_26 (by assumption) ?_
  refine P_X7_27 (pc := 29) dX7_copyFrom_29 (by assumption) (fun h4 e4 f4 => ?_)
  have hb4 : h4.2 b = some (.inr (5, ob5 B E)) := by rw [e4, hput_ne _ _ hab]; first | exact hb | assumption
  refine R_aload_n0 (pc := 32) dX7_copyFrom_32 ?_
  refine R_aload_n1 (pc := 33) dX7_copyFrom_33 ?_
  refine G_X7_30 (pc := 34) dX7_copyFrom_34 (by assumption) ?_
  refine P_X7_30 (pc := 37) dX7_copyFrom_37 (by assumption) (fun h5 e5 f5 => ?_)
  have hb5 : h5.2 b = some (.inr (5, ob5 B E)) := by rw [e5, hput_ne _ _ hab]; first | exact hb | assumption
  refine R_aload_n0 (pc := 40) dX7_copyFrom_40 ?_
  refine R_aload_n1 (pc := 41) dX7_copyFrom_41 ?_
  refine G_X7_33 (pc := 42) dX7_copyFrom_42 (by assumption) ?_
  refine P_X7_33 (pc := 45) dX7_copyFrom_45 (by assumption) (fun h6 e6 f6 => ?_)
  have hb6 : h6.2 b = some (.inr (5, ob5 B E)) := by rw [e6, hput_ne _ _ hab]; first | exact hb | assumption
  refine R_aload_n0 (pc := 48) dX7_copyFrom_48 ?_
  refine R_aload_n1 (pc := 49) dX7_copyFrom_49 ?_
  refine G_X7_36 (pc := 50) dX7_copyFrom_50 (by assumption) ?_
  refine P_X7_36 (pc := 53) dX7_copyFrom_53 (by assumption) (fun h7 e7 f7 => ?_)
  have hb7 : h7.2 b = some (.inr (5, ob5 B E)) := by rw [e7, hput_ne _ _ hab]; first | exact hb | assumption
  refine R_aload_n0 (pc := 56) dX7_copyFrom_56 ?_
  refine R_aload_n1 (pc := 57) dX7_copyFrom_57 ?_
  refine G_X7_9 (pc := 58) dX7_copyFrom_58 (by assumption) ?_
  refine P_X7_9 (pc := 61) dX7_copyFrom_61 (by assumption) (fun h8 e8 f8 => ?_)
  have hb8 : h8.2 b = some (.inr (5, ob5 B E)) := by rw [e8, hput_ne _ _ hab]; first | exact hb | assumption
  refine R_aload_n0 (pc := 64) dX7_copyFrom_64 ?_
  refine R_aload_n1 (pc := 65) dX7_copyFrom_65 ?_
  refine G_X7_39 (pc := 66) dX7_copyFrom_66 (by assumption) ?_
  refine P_X7_39 (pc := 69) dX7_copyFrom_69 (by assumption) (fun h9 e9 f9 => ?_)
  have hb9 : h9.2 b = some (.inr (5, ob5 B E)) := by rw [e9, hput_ne _ _ hab]; first | exact hb | assumption
  refine R_aload_n0 (pc := 72) dX7_copyFrom_72 ?_
  refine R_aload_n1 (pc := 73) dX7_copyFrom_73 ?_
  refine G_X7_42 (pc := 74) dX7_copyFrom_74 (by assumption) ?_
  refine P_X7_42 (pc := 77) dX7_copyFrom_77 (by assumption) (fun h10 e10 f10 => ?_)
  have hb10 : h10.2 b = some (.inr (5, ob5 B E)) := by rw [e10, hput_ne _ _ hab]; first | exact hb | assumption
  refine R_aload_n0 (pc := 80) dX7_copyFrom_80 ?_
  refine R_aload_n1 (pc := 81) dX7_copyFrom_81 ?_
  refine G_X7_45 (pc := 82) dX7_copyFrom_82 (by assumption) ?_
  refine P_X7_45 (pc := 85) dX7_copyFrom_85 (by assumption) (fun h11 e11 f11 => ?_)
  have hb11 : h11.2 b = some (.inr (5, ob5 B E)) := by rw [e11, hput_ne _ _ hab]; first | exact hb | assumption
  refine R_vret (pc := 88) rfl dX7_copyFrom_88 ?_
  exact ⟨rfl, by rw [e11, e10, e9, e8, e7, e6, e5, e4, e3, e2, e1]; simp only [hput_hput]; exact congrArg (fun z => hput h a (Sum.inr (5, z))) (ob5_ext (fun j hj => by rcases (by omega : j = 0 ∨ j = 1 ∨ j = 2 ∨ j = 3 ∨ j = 4 ∨ j = 5 ∨ j = 6 ∨ j = 7 ∨ j = 8 ∨ j = 9 ∨ j = 10 ∨ j = 11) with e | e | e | e | e | e | e | e | e | e | e | e <;> subst e <;> first | rfl | exact h0))⟩

end CPY
