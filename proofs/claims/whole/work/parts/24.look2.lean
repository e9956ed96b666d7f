/-! THE REFERENCE: its reading methods, on -/
def z_told (s : Nat → Int32) : Int32 := if s 1 = 1 then 3 else (if s 6 < 0 then 0 else 1) + (if s 7 < 0 then 0 else 2)
def z_trn (s : Nat → Int32) (i : Nat) (w : Int32) : Int32 := gx s i 2 - w + 6 - (gx s i 2 - w + 6) / 6 * 6
def z_fst (t : Int32) : Int32 := if t = 0 then 6 else if t = 1 ∨ t = 5 then 8 else if t = 3 then 0 else 4
def z_steps (s : Nat → Int32) (i : Nat) (w f : Int32) : Int32 := if 0 ≤ gx s i 1 ∧ gx s i 7 < 0 then z_fst (z_trn s i w) * f * (if gx s i 4 < gx s i 5 then gx s i 4 else gx s i 5) / 32 else 0
def zsz (n r : Nat) : Nat := if dg r = true ∧ n + nd r ≤ 6 then n + nd r else 0
def z_size (x : Int32) : Nat := if 0 < x then zsz 0 x.toNatClampNeg else 0
def zpb (v unit low : Nat) : Nat := if v % 10 = 3 then zpb (v / 10) (unit * 10) (low + unit) else (v + 1) * unit + low
termination_by v
decreasing_by omega
theorem zpb_3 {v : Nat} (unit low : Nat) (h : v % 10 = 3) : zpb v unit low = zpb (v / 10) (unit * 10) (low + unit) := by rw [zpb, if_pos h]
theorem zpb_n {v : Nat} (unit low : Nat) (h : ¬ v % 10 = 3) : zpb v unit low = (v + 1) * unit + low := by rw [zpb, if_neg h]
def z_hits (s : Nat → Int32) (i : Nat) (d : Int32) : Int32 := gx s i 6 * (4 - d) * (if 8 < gx s i 5 then 8 else gx s i 5) / 8
def z_may (s : Nat → Int32) (i k : Nat) : Bool := decide (1 < s 0 - gx s i (8 + k))
def z_lose (s : Nat → Int32) (i k : Nat) (n : Int32) : Nat → Int32 := px s i k (if gx s i k - n < 0 then 0 else gx s i k - n)
def z_cutf (s : Nat → Int32) (i : Nat) : Nat → Int32 := if gx s i 7 < 0 then s else px (px s (gx s i 7).toNatClampNeg 7 (-1)) i 7 (-1)
def z_gain (s : Nat → Int32) (i c : Nat) (w : Int32) : Int32 := if w = 1 then (if gx s i 4 < 8 ∧ 2 ≤ s (8 + c) then 1 else 0) else if w = 2 then (if gx s i 6 < 9 ∧ 3 ≤ s (8 + c) then 1 else 0) else
  let g := if gx s i 5 / 4 < 20 - gx s i 3 then gx s i 5 / 4 else 20 - gx s i 3
  if s (8 + c) < g then s (8 + c) else g
def z_let (t : Nat → Int32) (m a : Nat) : Int32 := if a < m then t a else 0
def z_need (x : Int32) : Int32 := if x = 101 then 0 else if x = 120 then 1 else if x = 102 then 3 else if x = 103 ∨ x = 114 ∨ x = 115 ∨ x = 116 then 2 else -1
def z_afl (s : Nat → Int32) (n : Nat) (c : Int32) : Int32 := kf (fun a j => a ||| (if 0 ≤ gx s j 1 ∧ (c < 0 ∨ gx s j 0 = c) then 1 <<< (nI j &&& 31) else 0)) 0 0 n
section LV24
variable {l : Launch} {D : va_G} {cA : Nat → ClassId} {N0 : Nat} {h : AH} {u : Nat} {M : Mm}
set_option maxHeartbeats 4000000 in
set_option maxRecDepth 100000 in
theorem c_X10_toldSet (hM : MAt h u M)  : Spec l D cA N0 m_X10_toldSet 0 0 0 [.ref u] h (fun r h' => r = some (.int (z_told M.2.1)) ∧ h' = h) := by
  refine Spec.of (L := [some (.ref u)]) (by decide) rfl (Nat.le_of_ble_eq_true rfl) ?_
  have q0 : h = mput h u M := (mput_self hM).symm
  have mo0 := hM.o
  have ms0 := hM.s
  have mb0 := hM.b
  have mt0 := hM.t
  have mn0 := hM.n
  have mc0 := hM.c
  refine R_aload_n0 (pc := 0) dX10_toldSet_0 ?_
  refine G_X10_7 (pc := 1) dX10_toldSet_1 (by assumption) ?_
  refine R_iconst (pc := 4) (v := 1) dX10_toldSet_4 (by decide) ?_
  refine R_iald (pc := 5) dX10_toldSet_5 (by assumption) (in_n (i := 1) (by decide) (by decide)) ?_
  rw [show ((1 : Int32)).toNatClampNeg = 1 from rfl]
  refine R_iconst (pc := 6) (v := 1) dX10_toldSet_6 (by decide) ?_
  refine R_icmp_ne (pc := 7) 14 dX10_toldSet_7 (by decide) (fun c_7 => ?_) (fun c_7 => ?_)
  · skip
    refine R_aload_n0 (pc := 14) dX10_toldSet_14 ?_
    refine G_X10_7 (pc := 15) dX10_toldSet_15 (by assumption) ?_
    refine R_bipush (pc := 18) (v := 6) dX10_toldSet_18 (by decide) ?_
    refine R_iald (pc := 20) dX10_toldSet_20 (by assumption) (in_n (i := 6) (by decide) (by decide)) ?_
    rw [show ((6 : Int32)).toNatClampNeg = 6 from rfl]
    refine R_if_lt (pc := 21) 28 dX10_toldSet_21 (by decide) (fun c_21 => ?_) (fun c_21 => ?_)
    · skip
      have d_21 := Int32.not_le.mpr c_21
      refine R_iconst (pc := 28) (v := 0) dX10_toldSet_28 (by decide) ?_
      refine R_aload_n0 (pc := 29) dX10_toldSet_29 ?_
      refine G_X10_7 (pc := 30) dX10_toldSet_30 (by assumption) ?_
      refine R_bipush (pc := 33) (v := 7) dX10_toldSet_33 (by decide) ?_
      refine R_iald (pc := 35) dX10_toldSet_35 (by assumption) (in_n (i := 7) (by decide) (by decide)) ?_
      rw [show ((7 : Int32)).toNatClampNeg = 7 from rfl]
      refine R_if_lt (pc := 36) 43 dX10_toldSet_36 (by decide) (fun c_36 => ?_) (fun c_36 => ?_)
      · skip
        have d_36 := Int32.not_le.mpr c_36
        refine R_iconst (pc := 43) (v := 0) dX10_toldSet_43 (by decide) ?_
        refine R_iadd (pc := 44) dX10_toldSet_44 ?_
        refine R_iret (pc := 45) rfl rfl dX10_toldSet_45 ?_
        exact ⟨congrArg (fun z => some (Value.int z)) (by simp (decide := true) only [z_told, c_7, c_21, d_21, c_36, d_36, reduceCtorEq, if_true, if_false, reduceIte, and_true, true_and, and_false, false_and, and_self, or_true, true_or, or_false, false_or, or_self, not_true, not_false_iff]), rfl⟩
      · skip
        have d_36 := Int32.not_lt.mp c_36
        refine R_iconst (pc := 39) (v := 2) dX10_toldSet_39 (by decide) ?_
        refine R_goto (pc := 40) 44 dX10_toldSet_40 (by decide) ?_
        refine R_iadd (pc := 44) dX10_toldSet_44 ?_
        refine R_iret (pc := 45) rfl rfl dX10_toldSet_45 ?_
        exact ⟨congrArg (fun z => some (Value.int z)) (by simp (decide := true) only [z_told, c_7, c_21, d_21, c_36, d_36, reduceCtorEq, if_true, if_false, reduceIte, and_true, true_and, and_false, false_and, and_self, or_true, true_or, or_false, false_or, or_self, not_true, not_false_iff]), rfl⟩
    · skip
      have d_21 := Int32.not_lt.mp c_21
      refine R_iconst (pc := 24) (v := 1) dX10_toldSet_24 (by decide) ?_
      refine R_goto (pc := 25) 29 dX10_toldSet_25 (by decide) ?_
      refine R_aload_n0 (pc := 29) dX10_toldSet_29 ?_
      refine G_X10_7 (pc := 30) dX10_toldSet_30 (by assumption) ?_
      refine R_bipush (pc := 33) (v := 7) dX10_toldSet_33 (by decide) ?_
      refine R_iald (pc := 35) dX10_toldSet_35 (by assumption) (in_n (i := 7) (by decide) (by decide)) ?_
      rw [show ((7 : Int32)).toNatClampNeg = 7 from rfl]
      refine R_if_lt (pc := 36) 43 dX10_toldSet_36 (by decide) (fun c_36 => ?_) (fun c_36 => ?_)
      · skip
        have d_36 := Int32.not_le.mpr c_36
        refine R_iconst (pc := 43) (v := 0) dX10_toldSet_43 (by decide) ?_
        refine R_iadd (pc := 44) dX10_toldSet_44 ?_
        refine R_iret (pc := 45) rfl rfl dX10_toldSet_45 ?_
        exact ⟨congrArg (fun z => some (Value.int z)) (by simp (decide := true) only [z_told, c_7, c_21, d_21, c_36, d_36, reduceCtorEq, if_true, if_false, reduceIte, and_true, true_and, and_false, false_and, and_self, or_true, true_or, or_false, false_or, or_self, not_true, not_false_iff]), rfl⟩
      · skip
        have d_36 := Int32.not_lt.mp c_36
        refine R_iconst (pc := 39) (v := 2) dX10_toldSet_39 (by decide) ?_
        refine R_goto (pc := 40) 44 dX10_toldSet_40 (by decide) ?_
        refine R_iadd (pc := 44) dX10_toldSet_44 ?_
        refine R_iret (pc := 45) rfl rfl dX10_toldSet_45 ?_
        exact ⟨congrArg (fun z => some (Value.int z)) (by simp (decide := true) only [z_told, c_7, c_21, d_21, c_36, d_36, reduceCtorEq, if_true, if_false, reduceIte, and_true, true_and, and_false, false_and, and_self, or_true, true_or, or_false, false_or, or_self, not_true, not_false_iff]), rfl⟩
  · skip
    refine R_iconst (pc := 10) (v := 3) dX10_toldSet_10 (by decide) ?_
    refine R_goto (pc := 11) 45 dX10_toldSet_11 (by decide) ?_
    refine R_iret (pc := 45) rfl rfl dX10_toldSet_45 ?_
    exact ⟨congrArg (fun z => some (Value.int z)) (by simp (decide := true) only [z_told, c_7, reduceCtorEq, if_true, if_false, reduceIte, and_true, true_and, and_false, false_and, and_self, or_true, true_or, or_false, false_or, or_self, not_true, not_false_iff]), rfl⟩

set_option maxHeartbeats 4000000 in
set_option maxRecDepth 100000 in
theorem c_X10_stepsBy (hM : MAt h u M) {i : Nat} (hi : i < 8) {w f : Int32} : Spec l D cA N0 m_X10_stepsBy 2 0 0 [.ref u, .int (nI i), .int w, .int f] h (fun r h' => r = some (.int (z_steps M.2.1 i w f)) ∧ h' = h) := by
  refine Spec.of (L := [some (.ref u), some (.int (nI i)), some (.int w), some (.int f), none, none, none]) (by decide) rfl (Nat.le_of_ble_eq_true rfl) ?_
  have q0 : h = mput h u M := (mput_self hM).symm
  have mo0 := hM.o
  have ms0 := hM.s
  have mb0 := hM.b
  have mt0 := hM.t
  have mn0 := hM.n
  have mc0 := hM.c
  refine R_aload_n0 (pc := 0) dX10_stepsBy_0 ?_
  refine R_iload_n1 (pc := 1) dX10_stepsBy_1 ?_
  refine R_callV1 (pc := 2) (T := TX10) cal_X10_floats kw962 kw964 kw33 dX10_stepsBy_2 (c_X10_floats hM (by assumption)) (by decide) (Nat.le_of_ble_eq_true rfl) (ci := 8) rfl (by assumption) ?_
  rintro _ _ ⟨rfl, rfl⟩
  refine R_ifb_eq (pc := 5) 18 dX10_stepsBy_5 (by decide) (fun c_5 => ?_) (fun c_5 => ?_)
  · skip
    refine R_iconst (pc := 18) (v := 0) dX10_stepsBy_18 (by decide) ?_
    refine R_iret (pc := 19) rfl rfl dX10_stepsBy_19 ?_
    exact ⟨congrArg (fun z => some (Value.int z)) (by simp (decide := true) only [z_steps, z_trn, z_fst, c_5, reduceCtorEq, if_true, if_false, reduceIte, and_true, true_and, and_false, false_and, and_self, or_true, true_or, or_false, false_or, or_self, not_true, not_false_iff]), rfl⟩
  · skip
    refine R_aload_n0 (pc := 8) dX10_stepsBy_8 ?_
    refine R_iload_n1 (pc := 9) dX10_stepsBy_9 ?_
    refine R_bipush (pc := 10) (v := 7) dX10_stepsBy_10 (by decide) ?_
    refine R_callV2 (pc := 12) (T := TX10) cal_X10_get kw899 kw901 kw25 dX10_stepsBy_12 (c_X10_get hM (by assumption) (k := 7) (by decide)) (by decide) (Nat.le_of_ble_eq_true rfl) (ci := 8) rfl (by assumption) ?_
    rintro _ _ ⟨rfl, rfl⟩
    refine R_if_lt (pc := 15) 20 dX10_stepsBy_15 (by decide) (fun c_15 => ?_) (fun c_15 => ?_)
    · skip
      have d_15 := Int32.not_le.mpr c_15
      refine R_aload_n0 (pc := 20) dX10_stepsBy_20 ?_
      refine R_iload_n1 (pc := 21) dX10_stepsBy_21 ?_
      refine R_iconst (pc := 22) (v := 2) dX10_stepsBy_22 (by decide) ?_
      refine R_callV2 (pc := 23) (T := TX10) cal_X10_get kw899 kw901 kw25 dX10_stepsBy_23 (c_X10_get hM (by assumption) (k := 2) (by decide)) (by decide) (Nat.le_of_ble_eq_true rfl) (ci := 8) rfl (by assumption) ?_
      rintro _ _ ⟨rfl, rfl⟩
      refine R_iload_n2 (pc := 26) dX10_stepsBy_26 ?_
      refine R_isub (pc := 27) dX10_stepsBy_27 ?_
      refine R_bipush (pc := 28) (v := 6) dX10_stepsBy_28 (by decide) ?_
      refine R_iadd (pc := 30) dX10_stepsBy_30 ?_
      refine R_bipush (pc := 31) (v := 6) dX10_stepsBy_31 (by decide) ?_
      refine R_irem (pc := 33) dX10_stepsBy_33 (by decide) ?_
      refine R_istore4 (pc := 34) dX10_stepsBy_34 rfl (by decide) ?_
      refine R_iload4 (pc := 36) dX10_stepsBy_36 ?_
      refine R_if_ne (pc := 38) 46 dX10_stepsBy_38 (by decide) (fun c_38 => ?_) (fun c_38 => ?_)
      · skip
        refine R_iload4 (pc := 46) dX10_stepsBy_46 ?_
        refine R_iconst (pc := 48) (v := 1) dX10_stepsBy_48 (by decide) ?_
        refine R_icmp_eq (pc := 49) 58 dX10_stepsBy_49 (by decide) (fun c_49 => ?_) (fun c_49 => ?_)
        · skip
          refine R_bipush (pc := 58) (v := 8) dX10_stepsBy_58 (by decide) ?_
          refine R_goto (pc := 60) 74 dX10_stepsBy_60 (by decide) ?_
          refine R_istore5 (pc := 74) dX10_stepsBy_74 rfl (by decide) ?_
          refine R_aload_n0 (pc := 76) dX10_stepsBy_76 ?_
          refine R_iload_n1 (pc := 77) dX10_stepsBy_77 ?_
          refine R_iconst (pc := 78) (v := 4) dX10_stepsBy_78 (by decide) ?_
          refine R_callV2 (pc := 79) (T := TX10) cal_X10_get kw899 kw901 kw25 dX10_stepsBy_79 (c_X10_get hM (by assumption) (k := 4) (by decide)) (by decide) (Nat.le_of_ble_eq_true rfl) (ci := 8) rfl (by assumption) ?_
          rintro _ _ ⟨rfl, rfl⟩
          refine R_aload_n0 (pc := 82) dX10_stepsBy_82 ?_
          refine R_iload_n1 (pc := 83) dX10_stepsBy_83 ?_
          refine R_iconst (pc := 84) (v := 5) dX10_stepsBy_84 (by decide) ?_
          refine R_callV2 (pc := 85) (T := TX10) cal_X10_get kw899 kw901 kw25 dX10_stepsBy_85 (c_X10_get hM (by assumption) (k := 5) (by decide)) (by decide) (Nat.le_of_ble_eq_true rfl) (ci := 8) rfl (by assumption) ?_
          rintro _ _ ⟨rfl, rfl⟩
          refine R_icmp_ge (pc := 88) 100 dX10_stepsBy_88 (by decide) (fun c_88 => ?_) (fun c_88 => ?_)
          · skip
            have d_88 := Int32.not_lt.mpr c_88
            refine R_aload_n0 (pc := 100) dX10_stepsBy_100 ?_
            refine R_iload_n1 (pc := 101) dX10_stepsBy_101 ?_
            refine R_iconst (pc := 102) (v := 5) dX10_stepsBy_102 (by decide) ?_
            refine R_callV2 (pc := 103) (T := TX10) cal_X10_get kw899 kw901 kw25 dX10_stepsBy_103 (c_X10_get hM (by assumption) (k := 5) (by decide)) (by decide) (Nat.le_of_ble_eq_true rfl) (ci := 8) rfl (by assumption) ?_
            rintro _ _ ⟨rfl, rfl⟩
            refine R_istore6 (pc := 106) dX10_stepsBy_106 rfl (by decide) ?_
            refine R_iload5 (pc := 108) dX10_stepsBy_108 ?_
            refine R_iload_n3 (pc := 110) dX10_stepsBy_110 ?_
            refine R_imul (pc := 111) dX10_stepsBy_111 ?_
            refine R_iload6 (pc := 112) dX10_stepsBy_112 ?_
            refine R_imul (pc := 114) dX10_stepsBy_114 ?_
            refine R_bipush (pc := 115) (v := 32) dX10_stepsBy_115 (by decide) ?_
            refine R_idiv (pc := 117) dX10_stepsBy_117 (by decide) ?_
            refine R_iret (pc := 118) rfl rfl dX10_stepsBy_118 ?_
            exact ⟨congrArg (fun z => some (Value.int z)) (by simp (decide := true) only [z_steps, z_trn, z_fst, c_5, c_15, d_15, c_38, c_49, c_88, d_88, reduceCtorEq, if_true, if_false, reduceIte, and_true, true_and, and_false, false_and, and_self, or_true, true_or, or_false, false_or, or_self, not_true, not_false_iff]), rfl⟩
          · skip
            have d_88 := Int32.not_le.mp c_88
            refine R_aload_n0 (pc := 91) dX10_stepsBy_91 ?_
            refine R_iload_n1 (pc := 92) dX10_stepsBy_92 ?_
            refine R_iconst (pc := 93) (v := 4) dX10_stepsBy_93 (by decide) ?_
            refine R_callV2 (pc := 94) (T := TX10) cal_X10_get kw899 kw901 kw25 dX10_stepsBy_94 (c_X10_get hM (by assumption) (k := 4) (by decide)) (by decide) (Nat.le_of_ble_eq_true rfl) (ci := 8) rfl (by assumption) ?_
            rintro _ _ ⟨rfl, rfl⟩
            refine R_goto (pc := 97) 106 dX10_stepsBy_97 (by decide) ?_
            refine R_istore6 (pc := 106) dX10_stepsBy_106 rfl (by decide) ?_
            refine R_iload5 (pc := 108) dX10_stepsBy_108 ?_
            refine R_iload_n3 (pc := 110) dX10_stepsBy_110 ?_
            refine R_imul (pc := 111) dX10_stepsBy_111 ?_
            refine R_iload6 (pc := 112) dX10_stepsBy_112 ?_
            refine R_imul (pc := 114) dX10_stepsBy_114 ?_
            refine R_bipush (pc := 115) (v := 32) dX10_stepsBy_115 (by decide) ?_
            refine R_idiv (pc := 117) dX10_stepsBy_117 (by decide) ?_
            refine R_iret (pc := 118) rfl rfl dX10_stepsBy_118 ?_
            exact ⟨congrArg (fun z => some (Value.int z)) (by simp (decide := true) only [z_steps, z_trn, z_fst, c_5, c_15, d_15, c_38, c_49, c_88, d_88, reduceCtorEq, if_true, if_false, reduceIte, and_true, true_and, and_false, false_and, and_self, or_true, true_or, or_false, false_or, or_self, not_true, not_false_iff]), rfl⟩
        · skip
          refine R_iload4 (pc := 52) dX10_stepsBy_52 ?_
          refine R_iconst (pc := 54) (v := 5) dX10_stepsBy_54 (by decide) ?_
          refine R_icmp_ne (pc := 55) 63 dX10_stepsBy_55 (by decide) (fun c_55 => ?_) (fun c_55 => ?_)
          · skip
            refine R_iload4 (pc := 63) dX10_stepsBy_63 ?_
            refine R_iconst (pc := 65) (v := 3) dX10_stepsBy_65 (by decide) ?_
            refine R_icmp_ne (pc := 66) 73 dX10_stepsBy_66 (by decide) (fun c_66 => ?_) (fun c_66 => ?_)
            · skip
              refine R_iconst (pc := 73) (v := 4) dX10_stepsBy_73 (by decide) ?_
              refine R_istore5 (pc := 74) dX10_stepsBy_74 rfl (by decide) ?_
              refine R_aload_n0 (pc := 76) dX10_stepsBy_76 ?_
              refine R_iload_n1 (pc := 77) dX10_stepsBy_77 ?_
              refine R_iconst (pc := 78) (v := 4) dX10_stepsBy_78 (by decide) ?_
              refine R_callV2 (pc := 79) (T := TX10) cal_X10_get kw899 kw901 kw25 dX10_stepsBy_79 (c_X10_get hM (by assumption) (k := 4) (by decide)) (by decide) (Nat.le_of_ble_eq_true rfl) (ci := 8) rfl (by assumption) ?_
              rintro _ _ ⟨rfl, rfl⟩
              refine R_aload_n0 (pc := 82) dX10_stepsBy_82 ?_
              refine R_iload_n1 (pc := 83) dX10_stepsBy_83 ?_
              refine R_iconst (pc := 84) (v := 5) dX10_stepsBy_84 (by decide) ?_
              refine R_callV2 (pc := 85) (T := TX10) cal_X10_get kw899 kw901 kw25 dX10_stepsBy_85 (c_X10_get hM (by assumption) (k := 5) (by decide)) (by decide) (Nat.le_of_ble_eq_true rfl) (ci := 8) rfl (by assumption) ?_
              rintro _ _ ⟨rfl, rfl⟩
              refine R_icmp_ge (pc := 88) 100 dX10_stepsBy_88 (by decide) (fun c_88 => ?_) (fun c_88 => ?_)
              · skip
                have d_88 := Int32.not_lt.mpr c_88
                refine R_aload_n0 (pc := 100) dX10_stepsBy_100 ?_
                refine R_iload_n1 (pc := 101) dX10_stepsBy_101 ?_
                refine R_iconst (pc := 102) (v := 5) dX10_stepsBy_102 (by decide) ?_
                refine R_callV2 (pc := 103) (T := TX10) cal_X10_get kw899 kw901 kw25 dX10_stepsBy_103 (c_X10_get hM (by assumption) (k := 5) (by decide)) (by decide) (Nat.le_of_ble_eq_true rfl) (ci := 8) rfl (by assumption) ?_
                rintro _ _ ⟨rfl, rfl⟩
                refine R_istore6 (pc := 106) dX10_stepsBy_106 rfl (by decide) ?_
                refine R_iload5 (pc := 108) dX10_stepsBy_108 ?_
                refine R_iload_n3 (pc := 110) dX10_stepsBy_110 ?_
                refine R_imul (pc := 111) dX10_stepsBy_111 ?_
                refine R_iload6 (pc := 112) dX10_stepsBy_112 ?_
                refine R_imul (pc := 114) dX10_stepsBy_114 ?_
                refine R_bipush (pc := 115) (v := 32) dX10_stepsBy_115 (by decide) ?_
                refine R_idiv (pc := 117) dX10_stepsBy_117 (by decide) ?_
                refine R_iret (pc := 118) rfl rfl dX10_stepsBy_118 ?_
                exact ⟨congrArg (fun z => some (Value.int z)) (by simp (decide := true) only [z_steps, z_trn, z_fst, c_5, c_15, d_15, c_38, c_49, c_55, c_66, c_88, d_88, reduceCtorEq, if_true, if_false, reduceIte, and_true, true_and, and_false, false_and, and_self, or_true, true_or, or_false, false_or, or_self, not_true, not_false_iff]), rfl⟩
              · skip
                have d_88 := Int32.not_le.mp c_88
                refine R_aload_n0 (pc := 91) dX10_stepsBy_91 ?_
                refine R_iload_n1 (pc := 92) dX10_stepsBy_92 ?_
                refine R_iconst (pc := 93) (v := 4) dX10_stepsBy_93 (by decide) ?_
                refine R_callV2 (pc := 94) (T := TX10) cal_X10_get kw899 kw901 kw25 dX10_stepsBy_94 (c_X10_get hM (by assumption) (k := 4) (by decide)) (by decide) (Nat.le_of_ble_eq_true rfl) (ci := 8) rfl (by assumption) ?_
                rintro _ _ ⟨rfl, rfl⟩
                refine R_goto (pc := 97) 106 dX10_stepsBy_97 (by decide) ?_
                refine R_istore6 (pc := 106) dX10_stepsBy_106 rfl (by decide) ?_
                refine R_iload5 (pc := 108) dX10_stepsBy_108 ?_
                refine R_iload_n3 (pc := 110) dX10_stepsBy_110 ?_
                refine R_imul (pc := 111) dX10_stepsBy_111 ?_
                refine R_iload6 (pc := 112) dX10_stepsBy_112 ?_
                refine R_imul (pc := 114) dX10_stepsBy_114 ?_
                refine R_bipush (pc := 115) (v := 32) dX10_stepsBy_115 (by decide) ?_
                refine R_idiv (pc := 117) dX10_stepsBy_117 (by decide) ?_
                refine R_iret (pc := 118) rfl rfl dX10_stepsBy_118 ?_
                exact ⟨congrArg (fun z => some (Value.int z)) (by simp (decide := true) only [z_steps, z_trn, z_fst, c_5, c_15, d_15, c_38, c_49, c_55, c_66, c_88, d_88, reduceCtorEq, if_true, if_false, reduceIte, and_true, true_and, and_false, false_and, and_self, or_true, true_or, or_false, false_or, or_self, not_true, not_false_iff]), rfl⟩
            · skip
              refine R_iconst (pc := 69) (v := 0) dX10_stepsBy_69 (by decide) ?_
              refine R_goto (pc := 70) 74 dX10_stepsBy_70 (by decide) ?_
              refine R_istore5 (pc := 74) dX10_stepsBy_74 rfl (by decide) ?_
              refine R_aload_n0 (pc := 76) dX10_stepsBy_76 ?_
              refine R_iload_n1 (pc := 77) dX10_stepsBy_77 ?_
              refine R_iconst (pc := 78) (v := 4) dX10_stepsBy_78 (by decide) ?_
              refine R_callV2 (pc := 79) (T := TX10) cal_X10_get kw899 kw901 kw25 dX10_stepsBy_79 (c_X10_get hM (by assumption) (k := 4) (by decide)) (by decide) (Nat.le_of_ble_eq_true rfl) (ci := 8) rfl (by assumption) ?_
              rintro _ _ ⟨rfl, rfl⟩
              refine R_aload_n0 (pc := 82) dX10_stepsBy_82 ?_
              refine R_iload_n1 (pc := 83) dX10_stepsBy_83 ?_
              refine R_iconst (pc := 84) (v := 5) dX10_stepsBy_84 (by decide) ?_
              refine R_callV2 (pc := 85) (T := TX10) cal_X10_get kw899 kw901 kw25 dX10_stepsBy_85 (c_X10_get hM (by assumption) (k := 5) (by decide)) (by decide) (Nat.le_of_ble_eq_true rfl) (ci := 8) rfl (by assumption) ?_
              rintro _ _ ⟨rfl, rfl⟩
              refine R_icmp_ge (pc := 88) 100 dX10_stepsBy_88 (by decide) (fun c_88 => ?_) (fun c_88 => ?_)
              · skip
                have d_88 := Int32.not_lt.mpr c_88
                refine R_aload_n0 (pc := 100) dX10_stepsBy_100 ?_
                refine R_iload_n1 (pc := 101) dX10_stepsBy_101 ?_
                refine R_iconst (pc := 102) (v := 5) dX10_stepsBy_102 (by decide) ?_
                refine R_callV2 (pc := 103) (T := TX10) cal_X10_get kw899 kw901 kw25 dX10_stepsBy_103 (c_X10_get hM (by assumption) (k := 5) (by decide)) (by decide) (Nat.le_of_ble_eq_true rfl) (ci := 8) rfl (by assumption) ?_
                rintro _ _ ⟨rfl, rfl⟩
                refine R_istore6 (pc := 106) dX10_stepsBy_106 rfl (by decide) ?_
                refine R_iload5 (pc := 108) dX10_stepsBy_108 ?_
                refine R_iload_n3 (pc := 110) dX10_stepsBy_110 ?_
                refine R_imul (pc := 111) dX10_stepsBy_111 ?_
                refine R_iload6 (pc := 112) dX10_stepsBy_112 ?_
                refine R_imul (pc := 114) dX10_stepsBy_114 ?_
                refine R_bipush (pc := 115) (v := 32) dX10_stepsBy_115 (by decide) ?_
                refine R_idiv (pc := 117) dX10_stepsBy_117 (by decide) ?_
                refine R_iret (pc := 118) rfl rfl dX10_stepsBy_118 ?_
                exact ⟨congrArg (fun z => some (Value.int z)) (by simp (decide := true) only [z_steps, z_trn, z_fst, c_5, c_15, d_15, c_38, c_49, c_55, c_66, c_88, d_88, reduceCtorEq, if_true, if_false, reduceIte, and_true, true_and, and_false, false_and, and_self, or_true, true_or, or_false, false_or, or_self, not_true, not_false_iff]), rfl⟩
              · skip
                have d_88 := Int32.not_le.mp c_88
                refine R_aload_n0 (pc := 91) dX10_stepsBy_91 ?_
                refine R_iload_n1 (pc := 92) dX10_stepsBy_92 ?_
                refine R_iconst (pc := 93) (v := 4) dX10_stepsBy_93 (by decide) ?_
                refine R_callV2 (pc := 94) (T := TX10) cal_X10_get kw899 kw901 kw25 dX10_stepsBy_94 (c_X10_get hM (by assumption) (k := 4) (by decide)) (by decide) (Nat.le_of_ble_eq_true rfl) (ci := 8) rfl (by assumption) ?_
                rintro _ _ ⟨rfl, rfl⟩
                refine R_goto (pc := 97) 106 dX10_stepsBy_97 (by decide) ?_
                refine R_istore6 (pc := 106) dX10_stepsBy_106 rfl (by decide) ?_
                refine R_iload5 (pc := 108) dX10_stepsBy_108 ?_
                refine R_iload_n3 (pc := 110) dX10_stepsBy_110 ?_
                refine R_imul (pc := 111) dX10_stepsBy_111 ?_
                refine R_iload6 (pc := 112) dX10_stepsBy_112 ?_
                refine R_imul (pc := 114) dX10_stepsBy_114 ?_
                refine R_bipush (pc := 115) (v := 32) dX10_stepsBy_115 (by decide) ?_
                refine R_idiv (pc := 117) dX10_stepsBy_117 (by decide) ?_
                refine R_iret (pc := 118) rfl rfl dX10_stepsBy_118 ?_
                exact ⟨congrArg (fun z => some (Value.int z)) (by simp (decide := true) only [z_steps, z_trn, z_fst, c_5, c_15, d_15, c_38, c_49, c_55, c_66, c_88, d_88, reduceCtorEq, if_true, if_false, reduceIte, and_true, true_and, and_false, false_and, and_self, or_true, true_or, or_false, false_or, or_self, not_true, not_false_iff]), rfl⟩
          · skip
            refine R_bipush (pc := 58) (v := 8) dX10_stepsBy_58 (by decide) ?_
            refine R_goto (pc := 60) 74 dX10_stepsBy_60 (by decide) ?_
            refine R_istore5 (pc := 74) dX10_stepsBy_74 rfl (by decide) ?_
            refine R_aload_n0 (pc := 76) dX10_stepsBy_76 ?_
            refine R_iload_n1 (pc := 77) dX10_stepsBy_77 ?_
            refine R_iconst (pc := 78) (v := 4) dX10_stepsBy_78 (by decide) ?_
            refine R_callV2 (pc := 79) (T := TX10) cal_X10_get kw899 kw901 kw25 dX10_stepsBy_79 (c_X10_get hM (by assumption) (k := 4) (by decide)) (by decide) (Nat.le_of_ble_eq_true rfl) (ci := 8) rfl (by assumption) ?_
            rintro _ _ ⟨rfl, rfl⟩
            refine R_aload_n0 (pc := 82) dX10_stepsBy_82 ?_
            refine R_iload_n1 (pc := 83) dX10_stepsBy_83 ?_
            refine R_iconst (pc := 84) (v := 5) dX10_stepsBy_84 (by decide) ?_
            refine R_callV2 (pc := 85) (T := TX10) cal_X10_get kw899 kw901 kw25 dX10_stepsBy_85 (c_X10_get hM (by assumption) (k := 5) (by decide)) (by decide) (Nat.le_of_ble_eq_true rfl) (ci := 8) rfl (by assumption) ?_
            rintro _ _ ⟨rfl, rfl⟩
            refine R_icmp_ge (pc := 88) 100 dX10_stepsBy_88 (by decide) (fun c_88 => ?_) (fun c_88 => ?_)
            · skip
              have d_88 := Int32.not_lt.mpr c_88
              refine R_aload_n0 (pc := 100) dX10_stepsBy_100 ?_
              refine R_iload_n1 (pc := 101) dX10_stepsBy_101 ?_
              refine R_iconst (pc := 102) (v := 5) dX10_stepsBy_102 (by decide) ?_
              refine R_callV2 (pc := 103) (T := TX10) cal_X10_get kw899 kw901 kw25 dX10_stepsBy_103 (c_X10_get hM (by assumption) (k := 5) (by decide)) (by decide) (Nat.le_of_ble_eq_true rfl) (ci := 8) rfl (by assumption) ?_
              rintro _ _ ⟨rfl, rfl⟩
              refine R_istore6 (pc := 106) dX10_stepsBy_106 rfl (by decide) ?_
              refine R_iload5 (pc := 108) dX10_stepsBy_108 ?_
              refine R_iload_n3 (pc := 110) dX10_stepsBy_110 ?_
              refine R_imul (pc := 111) dX10_stepsBy_111 ?_
              refine R_iload6 (pc := 112) dX10_stepsBy_112 ?_
              refine R_imul (pc := 114) dX10_stepsBy_114 ?_
              refine R_bipush (pc := 115) (v := 32) dX10_stepsBy_115 (by decide) ?_
              refine R_idiv (pc := 117) dX10_stepsBy_117 (by decide) ?_
              refine R_iret (pc := 118) rfl rfl dX10_stepsBy_118 ?_
              exact ⟨congrArg (fun z => some (Value.int z)) (by simp (decide := true) only [z_steps, z_trn, z_fst, c_5, c_15, d_15, c_38, c_49, c_55, c_88, d_88, reduceCtorEq, if_true, if_false, reduceIte, and_true, true_and, and_false, false_and, and_self, or_true, true_or, or_false, false_or, or_self, not_true, not_false_iff]), rfl⟩
            · skip
              have d_88 := Int32.not_le.mp c_88
              refine R_aload_n0 (pc := 91) dX10_stepsBy_91 ?_
              refine R_iload_n1 (pc := 92) dX10_stepsBy_92 ?_
              refine R_iconst (pc := 93) (v := 4) dX10_stepsBy_93 (by decide) ?_
              refine R_callV2 (pc := 94) (T := TX10) cal_X10_get kw899 kw901 kw25 dX10_stepsBy_94 (c_X10_get hM (by assumption) (k := 4) (by decide)) (by decide) (Nat.le_of_ble_eq_true rfl) (ci := 8) rfl (by assumption) ?_
              rintro _ _ ⟨rfl, rfl⟩
              refine R_goto (pc := 97) 106 dX10_stepsBy_97 (by decide) ?_
              refine R_istore6 (pc := 106) dX10_stepsBy_106 rfl (by decide) ?_
              refine R_iload5 (pc := 108) dX10_stepsBy_108 ?_
              refine R_iload_n3 (pc := 110) dX10_stepsBy_110 ?_
              refine R_imul (pc := 111) dX10_stepsBy_111 ?_
              refine R_iload6 (pc := 112) dX10_stepsBy_112 ?_
              refine R_imul (pc := 114) dX10_stepsBy_114 ?_
              refine R_bipush (pc := 115) (v := 32) dX10_stepsBy_115 (by decide) ?_
              refine R_idiv (pc := 117) dX10_stepsBy_117 (by decide) ?_
              refine R_iret (pc := 118) rfl rfl dX10_stepsBy_118 ?_
              exact ⟨congrArg (fun z => some (Value.int z)) (by simp (decide := true) only [z_steps, z_trn, z_fst, c_5, c_15, d_15, c_38, c_49, c_55, c_88, d_88, reduceCtorEq, if_true, if_false, reduceIte, and_true, true_and, and_false, false_and, and_self, or_true, true_or, or_false, false_or, or_self, not_true, not_false_iff]), rfl⟩
      · skip
        refine R_bipush (pc := 41) (v := 6) dX10_stepsBy_41 (by decide) ?_
        refine R_goto (pc := 43) 74 dX10_stepsBy_43 (by decide) ?_
        refine R_istore5 (pc := 74) dX10_stepsBy_74 rfl (by decide) ?_
        refine R_aload_n0 (pc := 76) dX10_stepsBy_76 ?_
        refine R_iload_n1 (pc := 77) dX10_stepsBy_77 ?_
        refine R_iconst (pc := 78) (v := 4) dX10_stepsBy_78 (by decide) ?_
        refine R_callV2 (pc := 79) (T := TX10) cal_X10_get kw899 kw901 kw25 dX10_stepsBy_79 (c_X10_get hM (by assumption) (k := 4) (by decide)) (by decide) (Nat.le_of_ble_eq_true rfl) (ci := 8) rfl (by assumption) ?_
        rintro _ _ ⟨rfl, rfl⟩
        refine R_aload_n0 (pc := 82) dX10_stepsBy_82 ?_
        refine R_iload_n1 (pc := 83) dX10_stepsBy_83 ?_
        refine R_iconst (pc := 84) (v := 5) dX10_stepsBy_84 (by decide) ?_
        refine R_callV2 (pc := 85) (T := TX10) cal_X10_get kw899 kw901 kw25 dX10_stepsBy_85 (c_X10_get hM (by assumption) (k := 5) (by decide)) (by decide) (Nat.le_of_ble_eq_true rfl) (ci := 8) rfl (by assumption) ?_
        rintro _ _ ⟨rfl, rfl⟩
        refine R_icmp_ge (pc := 88) 100 dX10_stepsBy_88 (by decide) (fun c_88 => ?_) (fun c_88 => ?_)
        · skip
          have d_88 := Int32.not_lt.mpr c_88
          refine R_aload_n0 (pc := 100) dX10_stepsBy_100 ?_
          refine R_iload_n1 (pc := 101) dX10_stepsBy_101 ?_
          refine R_iconst (pc := 102) (v := 5) dX10_stepsBy_102 (by decide) ?_
          refine R_callV2 (pc := 103) (T := TX10) cal_X10_get kw899 kw901 kw25 dX10_stepsBy_103 (c_X10_get hM (by assumption) (k := 5) (by decide)) (by decide) (Nat.le_of_ble_eq_true rfl) (ci := 8) rfl (by assumption) ?_
          rintro _ _ ⟨rfl, rfl⟩
          refine R_istore6 (pc := 106) dX10_stepsBy_106 rfl (by decide) ?_
          refine R_iload5 (pc := 108) dX10_stepsBy_108 ?_
          refine R_iload_n3 (pc := 110) dX10_stepsBy_110 ?_
          refine R_imul (pc := 111) dX10_stepsBy_111 ?_
          refine R_iload6 (pc := 112) dX10_stepsBy_112 ?_
          refine R_imul (pc := 114) dX10_stepsBy_114 ?_
          refine R_bipush (pc := 115) (v := 32) dX10_stepsBy_115 (by decide) ?_
          refine R_idiv (pc := 117) dX10_stepsBy_117 (by decide) ?_
          refine R_iret (pc := 118) rfl rfl dX10_stepsBy_118 ?_
          exact ⟨congrArg (fun z => some (Value.int z)) (by simp (decide := true) only [z_steps, z_trn, z_fst, c_5, c_15, d_15, c_38, c_88, d_88, reduceCtorEq, if_true, if_false, reduceIte, and_true, true_and, and_false, false_and, and_self, or_true, true_or, or_false, false_or, or_self, not_true, not_false_iff]), rfl⟩
        · skip
          have d_88 := Int32.not_le.mp c_88
          refine R_aload_n0 (pc := 91) dX10_stepsBy_91 ?_
          refine R_iload_n1 (pc := 92) dX10_stepsBy_92 ?_
          refine R_iconst (pc := 93) (v := 4) dX10_stepsBy_93 (by decide) ?_
          refine R_callV2 (pc := 94) (T := TX10) cal_X10_get kw899 kw901 kw25 dX10_stepsBy_94 (c_X10_get hM (by assumption) (k := 4) (by decide)) (by decide) (Nat.le_of_ble_eq_true rfl) (ci := 8) rfl (by assumption) ?_
          rintro _ _ ⟨rfl, rfl⟩
          refine R_goto (pc := 97) 106 dX10_stepsBy_97 (by decide) ?_
          refine R_istore6 (pc := 106) dX10_stepsBy_106 rfl (by decide) ?_
          refine R_iload5 (pc := 108) dX10_stepsBy_108 ?_
          refine R_iload_n3 (pc := 110) dX10_stepsBy_110 ?_
          refine R_imul (pc := 111) dX10_stepsBy_111 ?_
          refine R_iload6 (pc := 112) dX10_stepsBy_112 ?_
          refine R_imul (pc := 114) dX10_stepsBy_114 ?_
          refine R_bipush (pc := 115) (v := 32) dX10_stepsBy_115 (by decide) ?_
          refine R_idiv (pc := 117) dX10_stepsBy_117 (by decide) ?_
          refine R_iret (pc := 118) rfl rfl dX10_stepsBy_118 ?_
          exact ⟨congrArg (fun z => some (Value.int z)) (by simp (decide := true) only [z_steps, z_trn, z_fst, c_5, c_15, d_15, c_38, c_88, d_88, reduceCtorEq, if_true, if_false, reduceIte, and_true, true_and, and_false, false_and, and_self, or_true, true_or, or_false, false_or, or_self, not_true, not_false_iff]), rfl⟩
    · skip
      have d_15 := Int32.not_lt.mp c_15
      refine R_iconst (pc := 18) (v := 0) dX10_stepsBy_18 (by decide) ?_
      refine R_iret (pc := 19) rfl rfl dX10_stepsBy_19 ?_
      exact ⟨congrArg (fun z => some (Value.int z)) (by simp (decide := true) only [z_steps, z_trn, z_fst, c_5, c_15, d_15, reduceCtorEq, if_true, if_false, reduceIte, and_true, true_and, and_false, false_and, and_self, or_true, true_or, or_false, false_or, or_self, not_true, not_false_iff]), rfl⟩

set_option maxHeartbeats 4000000 in
set_option maxRecDepth 100000 in
theorem c_X10_stepsNow (hM : MAt h u M) {i : Nat} (hi : i < 8) : Spec l D cA N0 m_X10_stepsNow 3 0 0 [.ref u, .int (nI i)] h (fun r h' => r = some (.int (z_steps M.2.1 i (M.2.1 2) (M.2.1 3))) ∧ h' = h) := by
  refine Spec.of (L := [some (.ref u), some (.int (nI i))]) (by decide) rfl (Nat.le_of_ble_eq_true rfl) ?_
  have q0 : h = mput h u M := (mput_self hM).symm
  have mo0 := hM.o
  have ms0 := hM.s
  have mb0 := hM.b
  have mt0 := hM.t
  have mn0 := hM.n
  have mc0 := hM.c
  refine R_aload_n0 (pc := 0) dX10_stepsNow_0 ?_
  refine R_iload_n1 (pc := 1) dX10_stepsNow_1 ?_
  refine R_aload_n0 (pc := 2) dX10_stepsNow_2 ?_
  refine G_X10_7 (pc := 3) dX10_stepsNow_3 (by assumption) ?_
  refine R_iconst (pc := 6) (v := 2) dX10_stepsNow_6 (by decide) ?_
  refine R_iald (pc := 7) dX10_stepsNow_7 (by assumption) (in_n (i := 2) (by decide) (by decide)) ?_
  rw [show ((2 : Int32)).toNatClampNeg = 2 from rfl]
  refine R_aload_n0 (pc := 8) dX10_stepsNow_8 ?_
  refine G_X10_7 (pc := 9) dX10_stepsNow_9 (by assumption) ?_
  refine R_iconst (pc := 12) (v := 3) dX10_stepsNow_12 (by decide) ?_
  refine R_iald (pc := 13) dX10_stepsNow_13 (by assumption) (in_n (i := 3) (by decide) (by decide)) ?_
  rw [show ((3 : Int32)).toNatClampNeg = 3 from rfl]
  refine R_callV3 (pc := 14) (T := TX10) cal_X10_stepsBy kw970 kw972 kw35 dX10_stepsNow_14 (c_X10_stepsBy hM (by assumption)) (by decide) (Nat.le_of_ble_eq_true rfl) (ci := 8) rfl (by assumption) ?_
  rintro _ _ ⟨rfl, rfl⟩
  refine R_iret (pc := 17) rfl rfl dX10_stepsNow_17 ?_
  exact ⟨rfl, rfl⟩

set_option maxHeartbeats 4000000 in
set_option maxRecDepth 100000 in
theorem L_X10_sizeOf : ∀ (r n : Nat) (x : Int32), r < 2 ^ 31 → n + nd r < 2 ^ 20 → RunM l D cA N0 m_X10_sizeOf 1 0 0 (fun a h' => a = some (.int (nI (zsz n r))) ∧ h' = h) h 0 0 4 [some (.int x), some (.int (nI n)), some (.int (nI r))] [] := by
  intro r
  induction r using Nat.strongRecOn with
  | _ r ih =>
    intro n x hr hn
    refine R_iload_n2 (pc := 4) dX10_sizeOf_4 ?_
    refine R_if_le (pc := 5) 36 dX10_sizeOf_5 (by decide) (fun c_5 => ?_) (fun c_5 => ?_)
    · skip
      have d_5 := Int32.not_lt.mpr c_5
      refine R_iload_n1 (pc := 36) dX10_sizeOf_36 ?_
      refine R_bipush (pc := 37) (v := 6) dX10_sizeOf_37 (by decide) ?_
      refine R_icmp_le (pc := 39) 46 dX10_sizeOf_39 (by decide) (fun c_39 => ?_) (fun c_39 => ?_)
      · skip
        have d_39 := Int32.not_lt.mpr c_39
        have h6 : n ≤ 6 := (nI_leI (b := 6) (by omega) (by decide)).mp c_39
        refine R_iload_n1 (pc := 46) dX10_sizeOf_46 ?_
        refine R_iret (pc := 47) rfl rfl dX10_sizeOf_47 ?_
        have hz : r = 0 := (nI_le0 hr).mp c_5
        subst hz
        exact ⟨by rw [zsz, dg_0, nd_0, if_pos ⟨rfl, h6⟩]; rfl, rfl⟩
      · skip
        have d_39 := Int32.not_le.mp c_39
        have h6 : ¬ n ≤ 6 := fun z => c_39 ((nI_leI (b := 6) (by omega) (by decide)).mpr z)
        refine R_iconst (pc := 42) (v := 0) dX10_sizeOf_42 (by decide) ?_
        refine R_goto (pc := 43) 47 dX10_sizeOf_43 (by decide) ?_
        refine R_iret (pc := 47) rfl rfl dX10_sizeOf_47 ?_
        have hz : r = 0 := (nI_le0 hr).mp c_5
        subst hz
        exact ⟨by rw [zsz, dg_0, nd_0, if_neg (fun z => h6 z.2)]; rfl, rfl⟩
    · skip
      have d_5 := Int32.not_le.mp c_5
      have hz : r ≠ 0 := fun e => c_5 ((nI_le0 hr).mpr e)
      refine R_iload_n2 (pc := 8) dX10_sizeOf_8 ?_
      refine R_bipush (pc := 9) (v := 10) dX10_sizeOf_9 (by decide) ?_
      skip
      refine R_irem (pc := 11) dX10_sizeOf_11 (by decide) ?_
      rw [nI_r10 hr]
      refine R_i2l (pc := 12) dX10_sizeOf_12 ?_
      refine R_lconst (pc := 13) (v := 1) dX10_sizeOf_13 (by decide) ?_
      refine R_ldc2 (pc := 14) dX10_sizeOf_14 kw957 ?_
      refine R_callS3 (pc := 17) cal_X10_in kw892 kw893 dX10_sizeOf_17 (c_X10_in rfl (x := nI (r % 10)) (lo := 1) (by decide) (hi := 3) (by decide)) (by decide) (Nat.le_of_ble_eq_true rfl) ?_
      rintro _ _ ⟨rfl, rfl⟩
      refine R_ifb_ne (pc := 20) 25 dX10_sizeOf_20 (by decide) (fun c_20 => ?_) (fun c_20 => ?_)
      · skip
        have hd : 1 ≤ r % 10 ∧ r % 10 ≤ 3 := ⟨(nI_leI (a := 1) (by decide) (by omega)).mp c_20.1, (nI_leI (b := 3) (by omega) (by decide)).mp c_20.2⟩
        refine R_iinc1 (pc := 25) dX10_sizeOf_25 rfl (by decide) ?_
        refine R_iload_n2 (pc := 28) dX10_sizeOf_28 ?_
        refine R_bipush (pc := 29) (v := 10) dX10_sizeOf_29 (by decide) ?_
        refine R_idiv (pc := 31) dX10_sizeOf_31 (by decide) ?_
        refine R_istore_n2 (pc := 32) dX10_sizeOf_32 rfl (by decide) ?_
        refine R_goto (pc := 33) 4 dX10_sizeOf_33 (by decide) ?_
        rw [nI_d10 hr, nI_s]
        refine R_post (fun a h1 q1 => ?_) (ih (r / 10) (Nat.div_lt_self (Nat.pos_of_ne_zero hz) (by decide)) (n + 1) x (by omega) (by rw [nd_s hz] at hn; omega))
        have hds : dg r = dg (r / 10) := by rw [dg_s hz, decide_eq_true hd.1, decide_eq_true hd.2]; rfl
        rw [zsz, hds, nd_s hz, show n + (nd (r / 10) + 1) = n + 1 + nd (r / 10) by omega]
        exact q1
      · skip
        have hd : ¬ (1 ≤ r % 10 ∧ r % 10 ≤ 3) := fun z => c_20 ⟨(nI_leI (a := 1) (by decide) (by omega)).mpr z.1, (nI_leI (b := 3) (by omega) (by decide)).mpr z.2⟩
        refine R_iconst (pc := 23) (v := 0) dX10_sizeOf_23 (by decide) ?_
        refine R_iret (pc := 24) rfl rfl dX10_sizeOf_24 ?_
        have hds : ¬ dg r = true := by
          rw [dg_s hz, Bool.and_eq_true, Bool.and_eq_true, decide_eq_true_eq, decide_eq_true_eq]
          exact fun z => hd z.1
        exact ⟨by rw [zsz, if_neg (fun z => hds z.1)]; rfl, rfl⟩

theorem zsz_z (n : Nat) (x : Int32) (h : ¬ 0 < x) : z_size x = 0 := if_neg h
theorem pos_nI {x : Int32} (h : 0 < x) : ∃ p, p < 2 ^ 31 ∧ x = nI p ∧ x.toNatClampNeg = p := by
  have h2 : 0 ≤ x := Int32.le_of_lt h
  obtain ⟨p, hp, e⟩ : ∃ p : Nat, p < 2 ^ 31 ∧ x = nI p := by
    refine ⟨x.toInt.toNat, ?_, ?_⟩
    · have := Int32.toInt_lt x
      have : (0 : Int) ≤ x.toInt := by rw [Int32.le_iff_toInt_le] at h2; exact h2
      omega
    · refine Int32.toInt_inj.mp ?_
      have q0 : (0 : Int) ≤ x.toInt := by rw [Int32.le_iff_toInt_le] at h2; exact h2
      have := Int32.toInt_lt x
      rw [nI_toInt (by omega)]
      omega
  exact ⟨p, hp, e, by rw [e, nI_clamp hp]⟩
set_option maxHeartbeats 4000000 in
set_option maxRecDepth 100000 in
theorem c_X10_sizeOf {x : Int32} : Spec l D cA N0 m_X10_sizeOf 1 0 0 [.int x] h (fun r h' => r = some (.int (nI (z_size x))) ∧ h' = h) := by
  refine Spec.of (L := [some (.int x), none, none]) (by decide) rfl (Nat.le_of_ble_eq_true rfl) ?_
  refine R_iconst (pc := 0) (v := 0) dX10_sizeOf_0 (by decide) ?_
  refine R_istore_n1 (pc := 1) dX10_sizeOf_1 rfl (by decide) ?_
  refine R_iload_n0 (pc := 2) dX10_sizeOf_2 ?_
  refine R_istore_n2 (pc := 3) dX10_sizeOf_3 rfl (by decide) ?_
  by_cases hx : 0 < x
  case pos =>
    obtain ⟨p, hp, e, e2⟩ := pos_nI hx
    refine Run.cast (R_post (fun a h1 q1 => ?_) (L_X10_sizeOf p 0 x hp (by have := nd_le 10 p (by omega); omega))) rfl rfl rfl rfl (by rw [e]; rfl) rfl
    rw [z_size, if_pos hx, e2]
    exact q1
  refine R_iload_n2 (pc := 4) dX10_sizeOf_4 ?_
  refine R_if_le (pc := 5) 36 dX10_sizeOf_5 (by decide) (fun c_5 => ?_) (fun c_5 => absurd (Int32.not_lt.mp hx) c_5)
  refine R_iload_n1 (pc := 36) dX10_sizeOf_36 ?_
  refine R_bipush (pc := 37) (v := 6) dX10_sizeOf_37 (by decide) ?_
  refine R_icmp_le (pc := 39) 46 dX10_sizeOf_39 (by decide) (fun _ => ?_) (fun c0 => False.elim (by revert c0; decide))
  refine R_iload_n1 (pc := 46) dX10_sizeOf_46 ?_
  refine R_iret (pc := 47) rfl rfl dX10_sizeOf_47 ?_
  exact ⟨by rw [z_size, if_neg hx]; rfl, rfl⟩

set_option maxHeartbeats 4000000 in
set_option maxRecDepth 100000 in
theorem L_X10_pathBehind : ∀ (v unit low : Nat) (x : Int32), v < 2 ^ 31 → RunM l D cA N0 m_X10_pathBehind 0 0 0 (fun a h' => a = some (.int (nI (zpb v unit low))) ∧ h' = h) h 0 0 6 [some (.int x), some (.int (nI v)), some (.int (nI unit)), some (.int (nI low))] [] := by
  intro v
  induction v using Nat.strongRecOn with
  | _ v ih =>
    intro unit low x hv
    refine R_iload_n1 (pc := 6) dX10_pathBehind_6 ?_
    refine R_bipush (pc := 7) (v := 10) dX10_pathBehind_7 (by decide) ?_
    refine R_irem (pc := 9) dX10_pathBehind_9 (by decide) ?_
    rw [nI_r10 hv]
    refine R_iconst (pc := 10) (v := 3) dX10_pathBehind_10 (by decide) ?_
    refine R_icmp_ne (pc := 11) 31 dX10_pathBehind_11 (by decide) (fun c_11 => ?_) (fun c_11 => ?_)
    · skip
      have h3 : ¬ v % 10 = 3 := fun z => c_11 (by rw [z]; rfl)
      refine R_iload_n1 (pc := 31) dX10_pathBehind_31 ?_
      refine R_iconst (pc := 32) (v := 1) dX10_pathBehind_32 (by decide) ?_
      refine R_iadd (pc := 33) dX10_pathBehind_33 ?_
      refine R_iload_n2 (pc := 34) dX10_pathBehind_34 ?_
      refine R_imul (pc := 35) dX10_pathBehind_35 ?_
      refine R_iload_n3 (pc := 36) dX10_pathBehind_36 ?_
      refine R_iadd (pc := 37) dX10_pathBehind_37 ?_
      refine R_iret (pc := 38) rfl rfl dX10_pathBehind_38 ?_
      exact ⟨by rw [zpb_n _ _ h3, nI_1, pk_mul, nI_add], rfl⟩
    · skip
      have h3 : v % 10 = 3 := (nI_eq (b := 3) (by omega) (by decide)).mp c_11
      refine R_iload_n1 (pc := 14) dX10_pathBehind_14 ?_
      refine R_bipush (pc := 15) (v := 10) dX10_pathBehind_15 (by decide) ?_
      refine R_idiv (pc := 17) dX10_pathBehind_17 (by decide) ?_
      refine R_istore_n1 (pc := 18) dX10_pathBehind_18 rfl (by decide) ?_
      refine R_iload_n3 (pc := 19) dX10_pathBehind_19 ?_
      refine R_iload_n2 (pc := 20) dX10_pathBehind_20 ?_
      refine R_iadd (pc := 21) dX10_pathBehind_21 ?_
      refine R_istore_n3 (pc := 22) dX10_pathBehind_22 rfl (by decide) ?_
      refine R_iload_n2 (pc := 23) dX10_pathBehind_23 ?_
      refine R_bipush (pc := 24) (v := 10) dX10_pathBehind_24 (by decide) ?_
      refine R_imul (pc := 26) dX10_pathBehind_26 ?_
      refine R_istore_n2 (pc := 27) dX10_pathBehind_27 rfl (by decide) ?_
      refine R_goto (pc := 28) 6 dX10_pathBehind_28 (by decide) ?_
      rw [nI_d10 hv, nI_add, show nI unit * 10 = nI (unit * 10) from pk_mul _ 10, zpb_3 _ _ h3]
      exact ih (v / 10) (by omega) _ _ x (by omega)

set_option maxHeartbeats 4000000 in
set_option maxRecDepth 100000 in
theorem c_X10_pathBehind {p : Nat} (hp : p < 2 ^ 31) : Spec l D cA N0 m_X10_pathBehind 0 0 0 [.int (nI p)] h (fun r h' => r = some (.int (nI (zpb p 1 0))) ∧ h' = h) := by
  refine Spec.of (L := [some (.int (nI p)), none, none, none]) (by decide) rfl (Nat.le_of_ble_eq_true rfl) ?_
  refine R_iload_n0 (pc := 0) dX10_pathBehind_0 ?_
  refine R_istore_n1 (pc := 1) dX10_pathBehind_1 rfl (by decide) ?_
  refine R_iconst (pc := 2) (v := 1) dX10_pathBehind_2 (by decide) ?_
  refine R_istore_n2 (pc := 3) dX10_pathBehind_3 rfl (by decide) ?_
  refine R_iconst (pc := 4) (v := 0) dX10_pathBehind_4 (by decide) ?_
  refine R_istore_n3 (pc := 5) dX10_pathBehind_5 rfl (by decide) ?_
  exact L_X10_pathBehind p 1 0 (nI p) hp

set_option maxHeartbeats 4000000 in
set_option maxRecDepth 100000 in
theorem c_X10_hitsAt (hM : MAt h u M) {i : Nat} (hi : i < 8) {d : Int32} : Spec l D cA N0 m_X10_hitsAt 1 0 0 [.ref u, .int (nI i), .int d] h (fun r h' => r = some (.int (z_hits M.2.1 i d)) ∧ h' = h) := by
  refine Spec.of (L := [some (.ref u), some (.int (nI i)), some (.int d), none]) (by decide) rfl (Nat.le_of_ble_eq_true rfl) ?_
  have q0 : h = mput h u M := (mput_self hM).symm
  have mo0 := hM.o
  have ms0 := hM.s
  have mb0 := hM.b
  have mt0 := hM.t
  have mn0 := hM.n
  have mc0 := hM.c
  refine R_aload_n0 (pc := 0) dX10_hitsAt_0 ?_
  refine R_iload_n1 (pc := 1) dX10_hitsAt_1 ?_
  refine R_iconst (pc := 2) (v := 5) dX10_hitsAt_2 (by decide) ?_
  refine R_callV2 (pc := 3) (T := TX10) cal_X10_get kw899 kw901 kw25 dX10_hitsAt_3 (c_X10_get hM (by assumption) (k := 5) (by decide)) (by decide) (Nat.le_of_ble_eq_true rfl) (ci := 8) rfl (by assumption) ?_
  rintro _ _ ⟨rfl, rfl⟩
  refine R_bipush (pc := 6) (v := 8) dX10_hitsAt_6 (by decide) ?_
  refine R_icmp_le (pc := 8) 16 dX10_hitsAt_8 (by decide) (fun c_8 => ?_) (fun c_8 => ?_)
  · skip
    have d_8 := Int32.not_lt.mpr c_8
    refine R_aload_n0 (pc := 16) dX10_hitsAt_16 ?_
    refine R_iload_n1 (pc := 17) dX10_hitsAt_17 ?_
    refine R_iconst (pc := 18) (v := 5) dX10_hitsAt_18 (by decide) ?_
    refine R_callV2 (pc := 19) (T := TX10) cal_X10_get kw899 kw901 kw25 dX10_hitsAt_19 (c_X10_get hM (by assumption) (k := 5) (by decide)) (by decide) (Nat.le_of_ble_eq_true rfl) (ci := 8) rfl (by assumption) ?_
    rintro _ _ ⟨rfl, rfl⟩
    refine R_istore_n3 (pc := 22) dX10_hitsAt_22 rfl (by decide) ?_
    refine R_aload_n0 (pc := 23) dX10_hitsAt_23 ?_
    refine R_iload_n1 (pc := 24) dX10_hitsAt_24 ?_
    refine R_bipush (pc := 25) (v := 6) dX10_hitsAt_25 (by decide) ?_
    refine R_callV2 (pc := 27) (T := TX10) cal_X10_get kw899 kw901 kw25 dX10_hitsAt_27 (c_X10_get hM (by assumption) (k := 6) (by decide)) (by decide) (Nat.le_of_ble_eq_true rfl) (ci := 8) rfl (by assumption) ?_
    rintro _ _ ⟨rfl, rfl⟩
    refine R_iconst (pc := 30) (v := 4) dX10_hitsAt_30 (by decide) ?_
    refine R_iload_n2 (pc := 31) dX10_hitsAt_31 ?_
    refine R_isub (pc := 32) dX10_hitsAt_32 ?_
    refine R_imul (pc := 33) dX10_hitsAt_33 ?_
    refine R_iload_n3 (pc := 34) dX10_hitsAt_34 ?_
    refine R_imul (pc := 35) dX10_hitsAt_35 ?_
    refine R_bipush (pc := 36) (v := 8) dX10_hitsAt_36 (by decide) ?_
    refine R_idiv (pc := 38) dX10_hitsAt_38 (by decide) ?_
    refine R_iret (pc := 39) rfl rfl dX10_hitsAt_39 ?_
    exact ⟨congrArg (fun z => some (Value.int z)) (by simp (decide := true) only [z_hits, c_8, d_8, reduceCtorEq, if_true, if_false, reduceIte, and_true, true_and, and_false, false_and, and_self, or_true, true_or, or_false, false_or, or_self, not_true, not_false_iff]), rfl⟩
  · skip
    have d_8 := Int32.not_le.mp c_8
    refine R_bipush (pc := 11) (v := 8) dX10_hitsAt_11 (by decide) ?_
    refine R_goto (pc := 13) 22 dX10_hitsAt_13 (by decide) ?_
    refine R_istore_n3 (pc := 22) dX10_hitsAt_22 rfl (by decide) ?_
    refine R_aload_n0 (pc := 23) dX10_hitsAt_23 ?_
    refine R_iload_n1 (pc := 24) dX10_hitsAt_24 ?_
    refine R_bipush (pc := 25) (v := 6) dX10_hitsAt_25 (by decide) ?_
    refine R_callV2 (pc := 27) (T := TX10) cal_X10_get kw899 kw901 kw25 dX10_hitsAt_27 (c_X10_get hM (by assumption) (k := 6) (by decide)) (by decide) (Nat.le_of_ble_eq_true rfl) (ci := 8) rfl (by assumption) ?_
    rintro _ _ ⟨rfl, rfl⟩
    refine R_iconst (pc := 30) (v := 4) dX10_hitsAt_30 (by decide) ?_
    refine R_iload_n2 (pc := 31) dX10_hitsAt_31 ?_
    refine R_isub (pc := 32) dX10_hitsAt_32 ?_
    refine R_imul (pc := 33) dX10_hitsAt_33 ?_
    refine R_iload_n3 (pc := 34) dX10_hitsAt_34 ?_
    refine R_imul (pc := 35) dX10_hitsAt_35 ?_
    refine R_bipush (pc := 36) (v := 8) dX10_hitsAt_36 (by decide) ?_
    refine R_idiv (pc := 38) dX10_hitsAt_38 (by decide) ?_
    refine R_iret (pc := 39) rfl rfl dX10_hitsAt_39 ?_
    exact ⟨congrArg (fun z => some (Value.int z)) (by simp (decide := true) only [z_hits, c_8, d_8, reduceCtorEq, if_true, if_false, reduceIte, and_true, true_and, and_false, false_and, and_self, or_true, true_or, or_false, false_or, or_self, not_true, not_false_iff]), rfl⟩

set_option maxHeartbeats 4000000 in
set_option maxRecDepth 100000 in
theorem c_X10_mayFire (hM : MAt h u M) {i k : Nat} (hi : i < 8) (hk : k < 2) : Spec l D cA N0 m_X10_mayFire 1 0 0 [.ref u, .int (nI i), .int (nI k)] h (fun r h' => r = some (.int (bI (z_may M.2.1 i k = true))) ∧ h' = h) := by
  refine Spec.of (L := [some (.ref u), some (.int (nI i)), some (.int (nI k))]) (by decide) rfl (Nat.le_of_ble_eq_true rfl) ?_
  have q0 : h = mput h u M := (mput_self hM).symm
  have mo0 := hM.o
  have ms0 := hM.s
  have mb0 := hM.b
  have mt0 := hM.t
  have mn0 := hM.n
  have mc0 := hM.c
  refine R_aload_n0 (pc := 0) dX10_mayFire_0 ?_
  refine G_X10_7 (pc := 1) dX10_mayFire_1 (by assumption) ?_
  refine R_iconst (pc := 4) (v := 0) dX10_mayFire_4 (by decide) ?_
  refine R_iald (pc := 5) dX10_mayFire_5 (by assumption) (in_n (i := 0) (by decide) (by decide)) ?_
  rw [show ((0 : Int32)).toNatClampNeg = 0 from rfl]
  refine R_aload_n0 (pc := 6) dX10_mayFire_6 ?_
  refine R_iload_n1 (pc := 7) dX10_mayFire_7 ?_
  refine R_bipush (pc := 8) (v := 8) dX10_mayFire_8 (by decide) ?_
  refine R_iload_n2 (pc := 10) dX10_mayFire_10 ?_
  refine R_iadd (pc := 11) dX10_mayFire_11 ?_
  rw [show 8 + nI k = nI (8 + k) from nI_add 8 k]
  refine R_callV2 (pc := 12) (T := TX10) cal_X10_get kw899 kw901 kw25 dX10_mayFire_12 (c_X10_get hM hi (k := 8 + k) (by omega)) (by decide) (Nat.le_of_ble_eq_true rfl) (ci := 8) rfl (by assumption) ?_
  rintro _ _ ⟨rfl, rfl⟩
  refine R_isub (pc := 15) dX10_mayFire_15 ?_
  refine R_iconst (pc := 16) (v := 1) dX10_mayFire_16 (by decide) ?_
  refine R_icmp_le (pc := 17) 24 dX10_mayFire_17 (by decide) (fun c_17 => ?_) (fun c_17 => ?_)
  · skip
    have d_17 := Int32.not_lt.mpr c_17
    refine R_iconst (pc := 24) (v := 0) dX10_mayFire_24 (by decide) ?_
    refine R_iret (pc := 25) rfl rfl dX10_mayFire_25 ?_
    exact ⟨congrArg (fun z => some (Value.int z)) (by simp (decide := true) only [bI, z_may, decide_eq_true_eq, c_17, d_17, reduceCtorEq, if_true, if_false, reduceIte, and_true, true_and, and_false, false_and, and_self, or_true, true_or, or_false, false_or, or_self, not_true, not_false_iff]), rfl⟩
  · skip
    have d_17 := Int32.not_le.mp c_17
    refine R_iconst (pc := 20) (v := 1) dX10_mayFire_20 (by decide) ?_
    refine R_goto (pc := 21) 25 dX10_mayFire_21 (by decide) ?_
    refine R_iret (pc := 25) rfl rfl dX10_mayFire_25 ?_
    exact ⟨congrArg (fun z => some (Value.int z)) (by simp (decide := true) only [bI, z_may, decide_eq_true_eq, c_17, d_17, reduceCtorEq, if_true, if_false, reduceIte, and_true, true_and, and_false, false_and, and_self, or_true, true_or, or_false, false_or, or_self, not_true, not_false_iff]), rfl⟩

set_option maxHeartbeats 4000000 in
set_option maxRecDepth 100000 in
theorem c_X10_lose (hM : MAt h u M) {i k : Nat} (hi : i < 8) (hk : k < 11) {n : Int32} : Spec l D cA N0 m_X10_lose 1 0 0 [.ref u, .int (nI i), .int (nI k), .int n] h (fun r h' => r = none ∧ h' = mput h u (sM M (z_lose M.2.1 i k n))) := by
  refine Spec.of (L := [some (.ref u), some (.int (nI i)), some (.int (nI k)), some (.int n), none]) (by decide) rfl (Nat.le_of_ble_eq_true rfl) ?_
  have q0 : h = mput h u M := (mput_self hM).symm
  have mo0 := hM.o
  have ms0 := hM.s
  have mb0 := hM.b
  have mt0 := hM.t
  have mn0 := hM.n
  have mc0 := hM.c
  refine R_aload_n0 (pc := 0) dX10_lose_0 ?_
  refine R_iload_n1 (pc := 1) dX10_lose_1 ?_
  refine R_iload_n2 (pc := 2) dX10_lose_2 ?_
  refine R_callV2 (pc := 3) (T := TX10) cal_X10_get kw899 kw901 kw25 dX10_lose_3 (c_X10_get hM hi hk) (by decide) (Nat.le_of_ble_eq_true rfl) (ci := 8) rfl (by assumption) ?_
  rintro _ _ ⟨rfl, rfl⟩
  refine R_iload_n3 (pc := 6) dX10_lose_6 ?_
  refine R_isub (pc := 7) dX10_lose_7 ?_
  refine R_istore4 (pc := 8) dX10_lose_8 rfl (by decide) ?_
  refine R_aload_n0 (pc := 10) dX10_lose_10 ?_
  refine R_iload_n1 (pc := 11) dX10_lose_11 ?_
  refine R_iload_n2 (pc := 12) dX10_lose_12 ?_
  refine R_iload4 (pc := 13) dX10_lose_13 ?_
  refine R_if_ge (pc := 15) 22 dX10_lose_15 (by decide) (fun c_15 => ?_) (fun c_15 => ?_)
  · skip
    have d_15 := Int32.not_lt.mpr c_15
    refine R_iload4 (pc := 22) dX10_lose_22 ?_
    refine R_callV3 (pc := 24) (T := TX10) cal_X10_put kw930 kw932 kw30 dX10_lose_24 (c_X10_put hM hi hk) (by decide) (Nat.le_of_ble_eq_true rfl) (ci := 8) rfl (by assumption) ?_
    rintro _ h1 ⟨rfl, e1⟩
    have q1 := mstep_M q0 e1
    have hM1 := mAt q1
    have mo1 := hM1.o
    have ms1 := hM1.s
    have mb1 := hM1.b
    have mt1 := hM1.t
    have mn1 := hM1.n
    have mc1 := hM1.c
    refine R_vret (pc := 27) rfl dX10_lose_27 ?_
    exact ⟨rfl, by rw [q1, z_lose, if_neg (Int32.not_lt.mpr c_15)]⟩
  · skip
    have d_15 := Int32.not_le.mp c_15
    refine R_iconst (pc := 18) (v := 0) dX10_lose_18 (by decide) ?_
    refine R_goto (pc := 19) 24 dX10_lose_19 (by decide) ?_
    refine R_callV3 (pc := 24) (T := TX10) cal_X10_put kw930 kw932 kw30 dX10_lose_24 (c_X10_put hM hi hk) (by decide) (Nat.le_of_ble_eq_true rfl) (ci := 8) rfl (by assumption) ?_
    rintro _ h2 ⟨rfl, e2⟩
    have q2 := mstep_M q0 e2
    have hM2 := mAt q2
    have mo2 := hM2.o
    have ms2 := hM2.s
    have mb2 := hM2.b
    have mt2 := hM2.t
    have mn2 := hM2.n
    have mc2 := hM2.c
    refine R_vret (pc := 27) rfl dX10_lose_27 ?_
    exact ⟨rfl, by rw [q2, z_lose, if_pos (Int32.not_le.mp c_15)]⟩

set_option maxHeartbeats 4000000 in
set_option maxRecDepth 100000 in
theorem c_X10_free (hM : MAt h u M) {i : Nat} (hi : i < 8) (hw : gx M.2.1 i 7 < 0 ∨ ∃ j, j < 8 ∧ gx M.2.1 i 7 = nI j)  : Spec l D cA N0 m_X10_free 1 0 0 [.ref u, .int (nI i)] h (fun r h' => r = none ∧ h' = mput h u (sM M (z_cutf M.2.1 i))) := by
  refine Spec.of (L := [some (.ref u), some (.int (nI i)), none]) (by decide) rfl (Nat.le_of_ble_eq_true rfl) ?_
  have q0 : h = mput h u M := (mput_self hM).symm
  have mo0 := hM.o
  have ms0 := hM.s
  have mb0 := hM.b
  have mt0 := hM.t
  have mn0 := hM.n
  have mc0 := hM.c
  refine R_aload_n0 (pc := 0) dX10_free_0 ?_
  refine R_iload_n1 (pc := 1) dX10_free_1 ?_
  refine R_bipush (pc := 2) (v := 7) dX10_free_2 (by decide) ?_
  refine R_callV2 (pc := 4) (T := TX10) cal_X10_get kw899 kw901 kw25 dX10_free_4 (c_X10_get hM (by assumption) (k := 7) (by decide)) (by decide) (Nat.le_of_ble_eq_true rfl) (ci := 8) rfl (by assumption) ?_
  rintro _ _ ⟨rfl, rfl⟩
  refine R_istore_n2 (pc := 7) dX10_free_7 rfl (by decide) ?_
  refine R_iload_n2 (pc := 8) dX10_free_8 ?_
  refine R_if_lt (pc := 9) 28 dX10_free_9 (by decide) (fun c_9 => ?_) (fun c_9 => ?_)
  · skip
    have d_9 := Int32.not_le.mpr c_9
    refine R_vret (pc := 28) rfl dX10_free_28 ?_
    exact ⟨rfl, by rw [z_cutf, if_pos c_9]; exact q0⟩
  · skip
    have d_9 := Int32.not_lt.mp c_9
    obtain ⟨j, hj, ej⟩ := hw.resolve_left c_9
    rw [ej]
    refine R_aload_n0 (pc := 12) dX10_free_12 ?_
    refine R_iload_n2 (pc := 13) dX10_free_13 ?_
    refine R_bipush (pc := 14) (v := 7) dX10_free_14 (by decide) ?_
    refine R_iconst (pc := 16) (v := (-1)) dX10_free_16 (by decide) ?_
    refine R_callV3 (pc := 17) (T := TX10) cal_X10_put kw930 kw932 kw30 dX10_free_17 (c_X10_put hM (by assumption) (k := 7) (by decide)) (by decide) (Nat.le_of_ble_eq_true rfl) (ci := 8) rfl (by assumption) ?_
    rintro _ h1 ⟨rfl, e1⟩
    have q1 := mstep_M q0 e1
    have hM1 := mAt q1
    have mo1 := hM1.o
    have ms1 := hM1.s
    have mb1 := hM1.b
    have mt1 := hM1.t
    have mn1 := hM1.n
    have mc1 := hM1.c
    refine R_aload_n0 (pc := 20) dX10_free_20 ?_
    refine R_iload_n1 (pc := 21) dX10_free_21 ?_
    refine R_bipush (pc := 22) (v := 7) dX10_free_22 (by decide) ?_
    refine R_iconst (pc := 24) (v := (-1)) dX10_free_24 (by decide) ?_
    refine R_callV3 (pc := 25) (T := TX10) cal_X10_put kw930 kw932 kw30 dX10_free_25 (c_X10_put hM1 (by assumption) (k := 7) (by decide)) (by decide) (Nat.le_of_ble_eq_true rfl) (ci := 8) rfl (by assumption) ?_
    rintro _ h2 ⟨rfl, e2⟩
    have q2 := mstep_M q1 e2
    have hM2 := mAt q2
    have mo2 := hM2.o
    have ms2 := hM2.s
    have mb2 := hM2.b
    have mt2 := hM2.t
    have mn2 := hM2.n
    have mc2 := hM2.c
    refine R_vret (pc := 28) rfl dX10_free_28 ?_
    exact ⟨rfl, by rw [q2, z_cutf, if_neg c_9, ej, nI_clamp (by omega)]; rfl⟩

set_option maxHeartbeats 4000000 in
set_option maxRecDepth 100000 in
theorem c_X10_areTwo (hM : MAt h u M) {sn : Nat} (hn : sn ≤ 8) (hsn : M.2.1 10 = nI sn) {x y : Int32} : Spec l D cA N0 m_X10_areTwo 2 0 0 [.ref u, .int x, .int y] h (fun r h' => r = some (.int (bI ((0 ≤ x ∧ x < nI sn) ∧ (0 ≤ y ∧ y < nI sn) ∧ ¬ x = y))) ∧ h' = h) := by
  refine Spec.of (L := [some (.ref u), some (.int x), some (.int y)]) (by decide) rfl (Nat.le_of_ble_eq_true rfl) ?_
  have q0 : h = mput h u M := (mput_self hM).symm
  have mo0 := hM.o
  have ms0 := hM.s
  have mb0 := hM.b
  have mt0 := hM.t
  have mn0 := hM.n
  have mc0 := hM.c
  refine R_aload_n0 (pc := 0) dX10_areTwo_0 ?_
  refine R_iload_n1 (pc := 1) dX10_areTwo_1 ?_
  refine R_callV1 (pc := 2) (T := TX10) cal_X10_isShip kw958 kw960 kw32 dX10_areTwo_2 (c_X10_isShip hM hn hsn) (by decide) (Nat.le_of_ble_eq_true rfl) (ci := 8) rfl (by assumption) ?_
  rintro _ _ ⟨rfl, rfl⟩
  refine R_ifb_eq (pc := 5) 25 dX10_areTwo_5 (by decide) (fun c_5 => ?_) (fun c_5 => ?_)
  · skip
    refine R_iconst (pc := 25) (v := 0) dX10_areTwo_25 (by decide) ?_
    refine R_iret (pc := 26) rfl rfl dX10_areTwo_26 ?_
    exact ⟨congrArg (fun z => some (Value.int z)) (by simp (decide := true) only [bI, c_5, reduceCtorEq, if_true, if_false, reduceIte, and_true, true_and, and_false, false_and, and_self, or_true, true_or, or_false, false_or, or_self, not_true, not_false_iff]), rfl⟩
  · skip
    refine R_aload_n0 (pc := 8) dX10_areTwo_8 ?_
    refine R_iload_n2 (pc := 9) dX10_areTwo_9 ?_
    refine R_callV1 (pc := 10) (T := TX10) cal_X10_isShip kw958 kw960 kw32 dX10_areTwo_10 (c_X10_isShip hM hn hsn) (by decide) (Nat.le_of_ble_eq_true rfl) (ci := 8) rfl (by assumption) ?_
    rintro _ _ ⟨rfl, rfl⟩
    refine R_ifb_eq (pc := 13) 25 dX10_areTwo_13 (by decide) (fun c_13 => ?_) (fun c_13 => ?_)
    · skip
      refine R_iconst (pc := 25) (v := 0) dX10_areTwo_25 (by decide) ?_
      refine R_iret (pc := 26) rfl rfl dX10_areTwo_26 ?_
      exact ⟨congrArg (fun z => some (Value.int z)) (by simp (decide := true) only [bI, c_5, c_13, reduceCtorEq, if_true, if_false, reduceIte, and_true, true_and, and_false, false_and, and_self, or_true, true_or, or_false, false_or, or_self, not_true, not_false_iff]), rfl⟩
    · skip
      refine R_iload_n1 (pc := 16) dX10_areTwo_16 ?_
      refine R_iload_n2 (pc := 17) dX10_areTwo_17 ?_
      refine R_icmp_eq (pc := 18) 25 dX10_areTwo_18 (by decide) (fun c_18 => ?_) (fun c_18 => ?_)
      · skip
        refine R_iconst (pc := 25) (v := 0) dX10_areTwo_25 (by decide) ?_
        refine R_iret (pc := 26) rfl rfl dX10_areTwo_26 ?_
        exact ⟨congrArg (fun z => some (Value.int z)) (by simp (decide := true) only [bI, c_5, c_13, c_18, reduceCtorEq, if_true, if_false, reduceIte, and_true, true_and, and_false, false_and, and_self, or_true, true_or, or_false, false_or, or_self, not_true, not_false_iff]), rfl⟩
      · skip
        refine R_iconst (pc := 21) (v := 1) dX10_areTwo_21 (by decide) ?_
        refine R_goto (pc := 22) 26 dX10_areTwo_22 (by decide) ?_
        refine R_iret (pc := 26) rfl rfl dX10_areTwo_26 ?_
        exact ⟨congrArg (fun z => some (Value.int z)) (by simp (decide := true) only [bI, c_5, c_13, c_18, reduceCtorEq, if_true, if_false, reduceIte, and_true, true_and, and_false, false_and, and_self, or_true, true_or, or_false, false_or, or_self, not_true, not_false_iff]), rfl⟩

set_option maxHeartbeats 4000000 in
set_option maxRecDepth 100000 in
theorem c_X10_gainOf (hM : MAt h u M) {i c : Nat} (hi : i < 8) (hc : c < 2) (hcc : gx M.2.1 i 0 = nI c) {w : Int32} : Spec l D cA N0 m_X10_gainOf 1 0 0 [.ref u, .int (nI i), .int w] h (fun r h' => r = some (.int (z_gain M.2.1 i c w)) ∧ h' = h) := by
  refine Spec.of (L := [some (.ref u), some (.int (nI i)), some (.int w), none, none]) (by decide) rfl (Nat.le_of_ble_eq_true rfl) ?_
  have q0 : h = mput h u M := (mput_self hM).symm
  have mo0 := hM.o
  have ms0 := hM.s
  have mb0 := hM.b
  have mt0 := hM.t
  have mn0 := hM.n
  have mc0 := hM.c
  refine R_aload_n0 (pc := 0) dX10_gainOf_0 ?_
  refine G_X10_7 (pc := 1) dX10_gainOf_1 (by assumption) ?_
  refine R_bipush (pc := 4) (v := 8) dX10_gainOf_4 (by decide) ?_
  refine R_aload_n0 (pc := 6) dX10_gainOf_6 ?_
  refine R_iload_n1 (pc := 7) dX10_gainOf_7 ?_
  refine R_iconst (pc := 8) (v := 0) dX10_gainOf_8 (by decide) ?_
  refine R_callV2 (pc := 9) (T := TX10) cal_X10_get kw899 kw901 kw25 dX10_gainOf_9 (c_X10_get hM (by assumption) (k := 0) (by decide)) (by decide) (Nat.le_of_ble_eq_true rfl) (ci := 8) rfl (by assumption) ?_
  rintro _ _ ⟨rfl, rfl⟩
  refine R_iadd (pc := 12) dX10_gainOf_12 ?_
  rw [hcc, show 8 + nI c = nI (8 + c) from nI_add 8 c]
  refine R_iald (pc := 13) dX10_gainOf_13 (by assumption) (in_n (show 8 + c < 545 by omega) (by decide)) ?_
  rw [nI_clamp (show 8 + c < 2 ^ 31 by omega)]
  refine R_istore_n3 (pc := 14) dX10_gainOf_14 rfl (by decide) ?_
  refine R_iload_n2 (pc := 15) dX10_gainOf_15 ?_
  refine R_iconst (pc := 16) (v := 1) dX10_gainOf_16 (by decide) ?_
  refine R_icmp_ne (pc := 17) 42 dX10_gainOf_17 (by decide) (fun c_17 => ?_) (fun c_17 => ?_)
  · skip
    refine R_iload_n2 (pc := 42) dX10_gainOf_42 ?_
    refine R_iconst (pc := 43) (v := 2) dX10_gainOf_43 (by decide) ?_
    refine R_icmp_ne (pc := 44) 70 dX10_gainOf_44 (by decide) (fun c_44 => ?_) (fun c_44 => ?_)
    · skip
      refine R_bipush (pc := 70) (v := 20) dX10_gainOf_70 (by decide) ?_
      refine R_aload_n0 (pc := 72) dX10_gainOf_72 ?_
      refine R_iload_n1 (pc := 73) dX10_gainOf_73 ?_
      refine R_iconst (pc := 74) (v := 3) dX10_gainOf_74 (by decide) ?_
      refine R_callV2 (pc := 75) (T := TX10) cal_X10_get kw899 kw901 kw25 dX10_gainOf_75 (c_X10_get hM (by assumption) (k := 3) (by decide)) (by decide) (Nat.le_of_ble_eq_true rfl) (ci := 8) rfl (by assumption) ?_
      rintro _ _ ⟨rfl, rfl⟩
      refine R_isub (pc := 78) dX10_gainOf_78 ?_
      refine R_istore4 (pc := 79) dX10_gainOf_79 rfl (by decide) ?_
      refine R_aload_n0 (pc := 81) dX10_gainOf_81 ?_
      refine R_iload_n1 (pc := 82) dX10_gainOf_82 ?_
      refine R_iconst (pc := 83) (v := 5) dX10_gainOf_83 (by decide) ?_
      refine R_callV2 (pc := 84) (T := TX10) cal_X10_get kw899 kw901 kw25 dX10_gainOf_84 (c_X10_get hM (by assumption) (k := 5) (by decide)) (by decide) (Nat.le_of_ble_eq_true rfl) (ci := 8) rfl (by assumption) ?_
      rintro _ _ ⟨rfl, rfl⟩
      refine R_iconst (pc := 87) (v := 4) dX10_gainOf_87 (by decide) ?_
      refine R_idiv (pc := 88) dX10_gainOf_88 (by decide) ?_
      refine R_iload4 (pc := 89) dX10_gainOf_89 ?_
      refine R_icmp_ge (pc := 91) 105 dX10_gainOf_91 (by decide) (fun c_91 => ?_) (fun c_91 => ?_)
      · skip
        have d_91 := Int32.not_lt.mpr c_91
        refine R_iload4 (pc := 105) dX10_gainOf_105 ?_
        refine R_istore4 (pc := 107) dX10_gainOf_107 rfl (by decide) ?_
        refine R_iload_n3 (pc := 109) dX10_gainOf_109 ?_
        refine R_iload4 (pc := 110) dX10_gainOf_110 ?_
        refine R_icmp_ge (pc := 112) 119 dX10_gainOf_112 (by decide) (fun c_112 => ?_) (fun c_112 => ?_)
        · skip
          have d_112 := Int32.not_lt.mpr c_112
          refine R_iload4 (pc := 119) dX10_gainOf_119 ?_
          refine R_iret (pc := 121) rfl rfl dX10_gainOf_121 ?_
          exact ⟨congrArg (fun z => some (Value.int z)) (by simp (decide := true) only [z_gain, c_17, c_44, c_91, d_91, c_112, d_112, reduceCtorEq, if_true, if_false, reduceIte, and_true, true_and, and_false, false_and, and_self, or_true, true_or, or_false, false_or, or_self, not_true, not_false_iff]), rfl⟩
        · skip
          have d_112 := Int32.not_le.mp c_112
          refine R_iload_n3 (pc := 115) dX10_gainOf_115 ?_
          refine R_goto (pc := 116) 121 dX10_gainOf_116 (by decide) ?_
          refine R_iret (pc := 121) rfl rfl dX10_gainOf_121 ?_
          exact ⟨congrArg (fun z => some (Value.int z)) (by simp (decide := true) only [z_gain, c_17, c_44, c_91, d_91, c_112, d_112, reduceCtorEq, if_true, if_false, reduceIte, and_true, true_and, and_false, false_and, and_self, or_true, true_or, or_false, false_or, or_self, not_true, not_false_iff]), rfl⟩
      · skip
        have d_91 := Int32.not_le.mp c_91
        refine R_aload_n0 (pc := 94) dX10_gainOf_94 ?_
        refine R_iload_n1 (pc := 95) dX10_gainOf_95 ?_
        refine R_iconst (pc := 96) (v := 5) dX10_gainOf_96 (by decide) ?_
        refine R_callV2 (pc := 97) (T := TX10) cal_X10_get kw899 kw901 kw25 dX10_gainOf_97 (c_X10_get hM (by assumption) (k := 5) (by decide)) (by decide) (Nat.le_of_ble_eq_true rfl) (ci := 8) rfl (by assumption) ?_
        rintro _ _ ⟨rfl, rfl⟩
        refine R_iconst (pc := 100) (v := 4) dX10_gainOf_100 (by decide) ?_
        refine R_idiv (pc := 101) dX10_gainOf_101 (by decide) ?_
        refine R_goto (pc := 102) 107 dX10_gainOf_102 (by decide) ?_
        refine R_istore4 (pc := 107) dX10_gainOf_107 rfl (by decide) ?_
        refine R_iload_n3 (pc := 109) dX10_gainOf_109 ?_
        refine R_iload4 (pc := 110) dX10_gainOf_110 ?_
        refine R_icmp_ge (pc := 112) 119 dX10_gainOf_112 (by decide) (fun c_112 => ?_) (fun c_112 => ?_)
        · skip
          have d_112 := Int32.not_lt.mpr c_112
          refine R_iload4 (pc := 119) dX10_gainOf_119 ?_
          refine R_iret (pc := 121) rfl rfl dX10_gainOf_121 ?_
          exact ⟨congrArg (fun z => some (Value.int z)) (by simp (decide := true) only [z_gain, c_17, c_44, c_91, d_91, c_112, d_112, reduceCtorEq, if_true, if_false, reduceIte, and_true, true_and, and_false, false_and, and_self, or_true, true_or, or_false, false_or, or_self, not_true, not_false_iff]), rfl⟩
        · skip
          have d_112 := Int32.not_le.mp c_112
          refine R_iload_n3 (pc := 115) dX10_gainOf_115 ?_
          refine R_goto (pc := 116) 121 dX10_gainOf_116 (by decide) ?_
          refine R_iret (pc := 121) rfl rfl dX10_gainOf_121 ?_
          exact ⟨congrArg (fun z => some (Value.int z)) (by simp (decide := true) only [z_gain, c_17, c_44, c_91, d_91, c_112, d_112, reduceCtorEq, if_true, if_false, reduceIte, and_true, true_and, and_false, false_and, and_self, or_true, true_or, or_false, false_or, or_self, not_true, not_false_iff]), rfl⟩
    · skip
      refine R_aload_n0 (pc := 47) dX10_gainOf_47 ?_
      refine R_iload_n1 (pc := 48) dX10_gainOf_48 ?_
      refine R_bipush (pc := 49) (v := 6) dX10_gainOf_49 (by decide) ?_
      refine R_callV2 (pc := 51) (T := TX10) cal_X10_get kw899 kw901 kw25 dX10_gainOf_51 (c_X10_get hM (by assumption) (k := 6) (by decide)) (by decide) (Nat.le_of_ble_eq_true rfl) (ci := 8) rfl (by assumption) ?_
      rintro _ _ ⟨rfl, rfl⟩
      refine R_bipush (pc := 54) (v := 9) dX10_gainOf_54 (by decide) ?_
      refine R_icmp_ge (pc := 56) 68 dX10_gainOf_56 (by decide) (fun c_56 => ?_) (fun c_56 => ?_)
      · skip
        have d_56 := Int32.not_lt.mpr c_56
        refine R_iconst (pc := 68) (v := 0) dX10_gainOf_68 (by decide) ?_
        refine R_iret (pc := 69) rfl rfl dX10_gainOf_69 ?_
        exact ⟨congrArg (fun z => some (Value.int z)) (by simp (decide := true) only [z_gain, c_17, c_44, c_56, d_56, reduceCtorEq, if_true, if_false, reduceIte, and_true, true_and, and_false, false_and, and_self, or_true, true_or, or_false, false_or, or_self, not_true, not_false_iff]), rfl⟩
      · skip
        have d_56 := Int32.not_le.mp c_56
        refine R_iload_n3 (pc := 59) dX10_gainOf_59 ?_
        refine R_iconst (pc := 60) (v := 3) dX10_gainOf_60 (by decide) ?_
        refine R_icmp_lt (pc := 61) 68 dX10_gainOf_61 (by decide) (fun c_61 => ?_) (fun c_61 => ?_)
        · skip
          have d_61 := Int32.not_le.mpr c_61
          refine R_iconst (pc := 68) (v := 0) dX10_gainOf_68 (by decide) ?_
          refine R_iret (pc := 69) rfl rfl dX10_gainOf_69 ?_
          exact ⟨congrArg (fun z => some (Value.int z)) (by simp (decide := true) only [z_gain, c_17, c_44, c_56, d_56, c_61, d_61, reduceCtorEq, if_true, if_false, reduceIte, and_true, true_and, and_false, false_and, and_self, or_true, true_or, or_false, false_or, or_self, not_true, not_false_iff]), rfl⟩
        · skip
          have d_61 := Int32.not_lt.mp c_61
          refine R_iconst (pc := 64) (v := 1) dX10_gainOf_64 (by decide) ?_
          refine R_goto (pc := 65) 69 dX10_gainOf_65 (by decide) ?_
          refine R_iret (pc := 69) rfl rfl dX10_gainOf_69 ?_
          exact ⟨congrArg (fun z => some (Value.int z)) (by simp (decide := true) only [z_gain, c_17, c_44, c_56, d_56, c_61, d_61, reduceCtorEq, if_true, if_false, reduceIte, and_true, true_and, and_false, false_and, and_self, or_true, true_or, or_false, false_or, or_self, not_true, not_false_iff]), rfl⟩
  · skip
    refine R_aload_n0 (pc := 20) dX10_gainOf_20 ?_
    refine R_iload_n1 (pc := 21) dX10_gainOf_21 ?_
    refine R_iconst (pc := 22) (v := 4) dX10_gainOf_22 (by decide) ?_
    refine R_callV2 (pc := 23) (T := TX10) cal_X10_get kw899 kw901 kw25 dX10_gainOf_23 (c_X10_get hM (by assumption) (k := 4) (by decide)) (by decide) (Nat.le_of_ble_eq_true rfl) (ci := 8) rfl (by assumption) ?_
    rintro _ _ ⟨rfl, rfl⟩
    refine R_bipush (pc := 26) (v := 8) dX10_gainOf_26 (by decide) ?_
    refine R_icmp_ge (pc := 28) 40 dX10_gainOf_28 (by decide) (fun c_28 => ?_) (fun c_28 => ?_)
    · skip
      have d_28 := Int32.not_lt.mpr c_28
      refine R_iconst (pc := 40) (v := 0) dX10_gainOf_40 (by decide) ?_
      refine R_iret (pc := 41) rfl rfl dX10_gainOf_41 ?_
      exact ⟨congrArg (fun z => some (Value.int z)) (by simp (decide := true) only [z_gain, c_17, c_28, d_28, reduceCtorEq, if_true, if_false, reduceIte, and_true, true_and, and_false, false_and, and_self, or_true, true_or, or_false, false_or, or_self, not_true, not_false_iff]), rfl⟩
    · skip
      have d_28 := Int32.not_le.mp c_28
      refine R_iload_n3 (pc := 31) dX10_gainOf_31 ?_
      refine R_iconst (pc := 32) (v := 2) dX10_gainOf_32 (by decide) ?_
      refine R_icmp_lt (pc := 33) 40 dX10_gainOf_33 (by decide) (fun c_33 => ?_) (fun c_33 => ?_)
      · skip
        have d_33 := Int32.not_le.mpr c_33
        refine R_iconst (pc := 40) (v := 0) dX10_gainOf_40 (by decide) ?_
        refine R_iret (pc := 41) rfl rfl dX10_gainOf_41 ?_
        exact ⟨congrArg (fun z => some (Value.int z)) (by simp (decide := true) only [z_gain, c_17, c_28, d_28, c_33, d_33, reduceCtorEq, if_true, if_false, reduceIte, and_true, true_and, and_false, false_and, and_self, or_true, true_or, or_false, false_or, or_self, not_true, not_false_iff]), rfl⟩
      · skip
        have d_33 := Int32.not_lt.mp c_33
        refine R_iconst (pc := 36) (v := 1) dX10_gainOf_36 (by decide) ?_
        refine R_goto (pc := 37) 41 dX10_gainOf_37 (by decide) ?_
        refine R_iret (pc := 41) rfl rfl dX10_gainOf_41 ?_
        exact ⟨congrArg (fun z => some (Value.int z)) (by simp (decide := true) only [z_gain, c_17, c_28, d_28, c_33, d_33, reduceCtorEq, if_true, if_false, reduceIte, and_true, true_and, and_false, false_and, and_self, or_true, true_or, or_false, false_or, or_self, not_true, not_false_iff]), rfl⟩

set_option maxHeartbeats 4000000 in
set_option maxRecDepth 100000 in
theorem c_X10_letterAt (hM : MAt h u M) {m : Nat} (hm : m ≤ 100) (hml : M.1 4 = nI m) {a : Nat} (ha : a < 2 ^ 31) : Spec l D cA N0 m_X10_letterAt 0 0 0 [.ref u, .int (nI a)] h (fun r h' => r = some (.int (z_let M.2.2.2.1 m a)) ∧ h' = h) := by
  refine Spec.of (L := [some (.ref u), some (.int (nI a))]) (by decide) rfl (Nat.le_of_ble_eq_true rfl) ?_
  have q0 : h = mput h u M := (mput_self hM).symm
  have mo0 := hM.o
  have ms0 := hM.s
  have mb0 := hM.b
  have mt0 := hM.t
  have mn0 := hM.n
  have mc0 := hM.c
  refine R_iload_n1 (pc := 0) dX10_letterAt_0 ?_
  refine R_aload_n0 (pc := 1) dX10_letterAt_1 ?_
  refine G_X10_162 (pc := 2) dX10_letterAt_2 (by assumption) ?_
  rw [hml]
  refine R_icmp_ge (pc := 5) 17 dX10_letterAt_5 (by decide) (fun c_5 => ?_) (fun c_5 => ?_)
  · skip
    have d_5 := Int32.not_lt.mpr c_5
    have h5 : ¬ a < m := fun z => Int32.not_le.mpr ((nI_ltI ha (by omega)).mpr z) c_5
    refine R_iconst (pc := 17) (v := 0) dX10_letterAt_17 (by decide) ?_
    refine R_iret (pc := 18) rfl rfl dX10_letterAt_18 ?_
    exact ⟨by rw [z_let, if_neg h5], rfl⟩
  · skip
    have d_5 := Int32.not_le.mp c_5
    have h5 : a < m := (nI_ltI ha (by omega)).mp (Int32.not_le.mp c_5)
    refine R_aload_n0 (pc := 8) dX10_letterAt_8 ?_
    refine G_X10_19 (pc := 9) dX10_letterAt_9 (by assumption) ?_
    refine R_iload_n1 (pc := 12) dX10_letterAt_12 ?_
    refine R_iald (pc := 13) dX10_letterAt_13 (by assumption) (in_n (show a < 100 by omega) (by decide)) ?_
    refine R_goto (pc := 14) 18 dX10_letterAt_14 (by decide) ?_
    refine R_iret (pc := 18) rfl rfl dX10_letterAt_18 ?_
    exact ⟨by rw [z_let, if_pos h5, nI_clamp ha], rfl⟩

set_option maxHeartbeats 4000000 in
set_option maxRecDepth 100000 in
theorem c_X10_needs {x : Int32} : Spec l D cA N0 m_X10_needs 0 0 0 [.int x] h (fun r h' => r = some (.int (z_need x)) ∧ h' = h) := by
  refine Spec.of (L := [some (.int x)]) (by decide) rfl (Nat.le_of_ble_eq_true rfl) ?_
  refine R_iload_n0 (pc := 0) dX10_needs_0 ?_
  refine R_swG (pc := 1) (lo := 101) (hi := 120) 104 dX10_needs_1 (by decide) (fun c_1 => ?_) (fun c_1 c_1b => ?_)
  · skip
    refine R_iconst (pc := 104) (v := (-1)) dX10_needs_104 (by decide) ?_
    refine R_iret (pc := 105) rfl rfl dX10_needs_105 ?_
    exact ⟨congrArg (fun z => some (Value.int z)) (by rw [z_need, if_neg (fun z => sw_ne c_1 (v := 101) (by decide) z), if_neg (fun z => sw_ne c_1 (v := 120) (by decide) z), if_neg (fun z => sw_ne c_1 (v := 102) (by decide) z), if_neg (fun z => z.elim (sw_ne c_1 (v := 103) (by decide)) (fun z => z.elim (sw_ne c_1 (v := 114) (by decide)) (fun z => z.elim (sw_ne c_1 (v := 115) (by decide)) (sw_ne c_1 (v := 116) (by decide)))))]), rfl⟩
  · skip
    rcases sw_101_120 _ c_1 c_1b with c_1 | c_1 | c_1 | c_1 | c_1 | c_1 | c_1 | c_1 | c_1 | c_1 | c_1 | c_1 | c_1 | c_1 | c_1 | c_1 | c_1 | c_1 | c_1 | c_1
    · skip
      refine R_swE (pc := 1) (v := 101) (off := 101) 102 dX10_needs_1 c_1 (by decide) (by decide) (by decide) (by decide) ?_
      refine R_iconst (pc := 102) (v := 0) dX10_needs_102 (by decide) ?_
      refine R_iret (pc := 103) rfl rfl dX10_needs_103 ?_
      exact ⟨congrArg (fun z => some (Value.int z)) (by subst c_1; decide), rfl⟩
    · skip
      refine R_swE (pc := 1) (v := 102) (off := 97) 98 dX10_needs_1 c_1 (by decide) (by decide) (by decide) (by decide) ?_
      refine R_iconst (pc := 98) (v := 3) dX10_needs_98 (by decide) ?_
      refine R_iret (pc := 99) rfl rfl dX10_needs_99 ?_
      exact ⟨congrArg (fun z => some (Value.int z)) (by subst c_1; decide), rfl⟩
    · skip
      refine R_swE (pc := 1) (v := 103) (off := 95) 96 dX10_needs_1 c_1 (by decide) (by decide) (by decide) (by decide) ?_
      refine R_iconst (pc := 96) (v := 2) dX10_needs_96 (by decide) ?_
      refine R_iret (pc := 97) rfl rfl dX10_needs_97 ?_
      exact ⟨congrArg (fun z => some (Value.int z)) (by subst c_1; decide), rfl⟩
    · skip
      refine R_swE (pc := 1) (v := 104) (off := 103) 104 dX10_needs_1 c_1 (by decide) (by decide) (by decide) (by decide) ?_
      refine R_iconst (pc := 104) (v := (-1)) dX10_needs_104 (by decide) ?_
      refine R_iret (pc := 105) rfl rfl dX10_needs_105 ?_
      exact ⟨congrArg (fun z => some (Value.int z)) (by subst c_1; decide), rfl⟩
    · skip
      refine R_swE (pc := 1) (v := 105) (off := 103) 104 dX10_needs_1 c_1 (by decide) (by decide) (by decide) (by decide) ?_
      refine R_iconst (pc := 104) (v := (-1)) dX10_needs_104 (by decide) ?_
      refine R_iret (pc := 105) rfl rfl dX10_needs_105 ?_
      exact ⟨congrArg (fun z => some (Value.int z)) (by subst c_1; decide), rfl⟩
    · skip
      refine R_swE (pc := 1) (v := 106) (off := 103) 104 dX10_needs_1 c_1 (by decide) (by decide) (by decide) (by decide) ?_
      refine R_iconst (pc := 104) (v := (-1)) dX10_needs_104 (by decide) ?_
      refine R_iret (pc := 105) rfl rfl dX10_needs_105 ?_
      exact ⟨congrArg (fun z => some (Value.int z)) (by subst c_1; decide), rfl⟩
    · skip
      refine R_swE (pc := 1) (v := 107) (off := 103) 104 dX10_needs_1 c_1 (by decide) (by decide) (by decide) (by decide) ?_
      refine R_iconst (pc := 104) (v := (-1)) dX10_needs_104 (by decide) ?_
      refine R_iret (pc := 105) rfl rfl dX10_needs_105 ?_
      exact ⟨congrArg (fun z => some (Value.int z)) (by subst c_1; decide), rfl⟩
    · skip
      refine R_swE (pc := 1) (v := 108) (off := 103) 104 dX10_needs_1 c_1 (by decide) (by decide) (by decide) (by decide) ?_
      refine R_iconst (pc := 104) (v := (-1)) dX10_needs_104 (by decide) ?_
      refine R_iret (pc := 105) rfl rfl dX10_needs_105 ?_
      exact ⟨congrArg (fun z => some (Value.int z)) (by subst c_1; decide), rfl⟩
    · skip
      refine R_swE (pc := 1) (v := 109) (off := 103) 104 dX10_needs_1 c_1 (by decide) (by decide) (by decide) (by decide) ?_
      refine R_iconst (pc := 104) (v := (-1)) dX10_needs_104 (by decide) ?_
      refine R_iret (pc := 105) rfl rfl dX10_needs_105 ?_
      exact ⟨congrArg (fun z => some (Value.int z)) (by subst c_1; decide), rfl⟩
    · skip
      refine R_swE (pc := 1) (v := 110) (off := 103) 104 dX10_needs_1 c_1 (by decide) (by decide) (by decide) (by decide) ?_
      refine R_iconst (pc := 104) (v := (-1)) dX10_needs_104 (by decide) ?_
      refine R_iret (pc := 105) rfl rfl dX10_needs_105 ?_
      exact ⟨congrArg (fun z => some (Value.int z)) (by subst c_1; decide), rfl⟩
    · skip
      refine R_swE (pc := 1) (v := 111) (off := 103) 104 dX10_needs_1 c_1 (by decide) (by decide) (by decide) (by decide) ?_
      refine R_iconst (pc := 104) (v := (-1)) dX10_needs_104 (by decide) ?_
      refine R_iret (pc := 105) rfl rfl dX10_needs_105 ?_
      exact ⟨congrArg (fun z => some (Value.int z)) (by subst c_1; decide), rfl⟩
    · skip
      refine R_swE (pc := 1) (v := 112) (off := 103) 104 dX10_needs_1 c_1 (by decide) (by decide) (by decide) (by decide) ?_
      refine R_iconst (pc := 104) (v := (-1)) dX10_needs_104 (by decide) ?_
      refine R_iret (pc := 105) rfl rfl dX10_needs_105 ?_
      exact ⟨congrArg (fun z => some (Value.int z)) (by subst c_1; decide), rfl⟩
    · skip
      refine R_swE (pc := 1) (v := 113) (off := 103) 104 dX10_needs_1 c_1 (by decide) (by decide) (by decide) (by decide) ?_
      refine R_iconst (pc := 104) (v := (-1)) dX10_needs_104 (by decide) ?_
      refine R_iret (pc := 105) rfl rfl dX10_needs_105 ?_
      exact ⟨congrArg (fun z => some (Value.int z)) (by subst c_1; decide), rfl⟩
    · skip
      refine R_swE (pc := 1) (v := 114) (off := 95) 96 dX10_needs_1 c_1 (by decide) (by decide) (by decide) (by decide) ?_
      refine R_iconst (pc := 96) (v := 2) dX10_needs_96 (by decide) ?_
      refine R_iret (pc := 97) rfl rfl dX10_needs_97 ?_
      exact ⟨congrArg (fun z => some (Value.int z)) (by subst c_1; decide), rfl⟩
    · skip
      refine R_swE (pc := 1) (v := 115) (off := 95) 96 dX10_needs_1 c_1 (by decide) (by decide) (by decide) (by decide) ?_
      refine R_iconst (pc := 96) (v := 2) dX10_needs_96 (by decide) ?_
      refine R_iret (pc := 97) rfl rfl dX10_needs_97 ?_
      exact ⟨congrArg (fun z => some (Value.int z)) (by subst c_1; decide), rfl⟩
    · skip
      refine R_swE (pc := 1) (v := 116) (off := 95) 96 dX10_needs_1 c_1 (by decide) (by decide) (by decide) (by decide) ?_
      refine R_iconst (pc := 96) (v := 2) dX10_needs_96 (by decide) ?_
      refine R_iret (pc := 97) rfl rfl dX10_needs_97 ?_
      exact ⟨congrArg (fun z => some (Value.int z)) (by subst c_1; decide), rfl⟩
    · skip
      refine R_swE (pc := 1) (v := 117) (off := 103) 104 dX10_needs_1 c_1 (by decide) (by decide) (by decide) (by decide) ?_
      refine R_iconst (pc := 104) (v := (-1)) dX10_needs_104 (by decide) ?_
      refine R_iret (pc := 105) rfl rfl dX10_needs_105 ?_
      exact ⟨congrArg (fun z => some (Value.int z)) (by subst c_1; decide), rfl⟩
    · skip
      refine R_swE (pc := 1) (v := 118) (off := 103) 104 dX10_needs_1 c_1 (by decide) (by decide) (by decide) (by decide) ?_
      refine R_iconst (pc := 104) (v := (-1)) dX10_needs_104 (by decide) ?_
      refine R_iret (pc := 105) rfl rfl dX10_needs_105 ?_
      exact ⟨congrArg (fun z => some (Value.int z)) (by subst c_1; decide), rfl⟩
    · skip
      refine R_swE (pc := 1) (v := 119) (off := 103) 104 dX10_needs_1 c_1 (by decide) (by decide) (by decide) (by decide) ?_
      refine R_iconst (pc := 104) (v := (-1)) dX10_needs_104 (by decide) ?_
      refine R_iret (pc := 105) rfl rfl dX10_needs_105 ?_
      exact ⟨congrArg (fun z => some (Value.int z)) (by subst c_1; decide), rfl⟩
    · skip
      refine R_swE (pc := 1) (v := 120) (off := 99) 100 dX10_needs_1 c_1 (by decide) (by decide) (by decide) (by decide) ?_
      refine R_iconst (pc := 100) (v := 1) dX10_needs_100 (by decide) ?_
      refine R_iret (pc := 101) rfl rfl dX10_needs_101 ?_
      exact ⟨congrArg (fun z => some (Value.int z)) (by subst c_1; decide), rfl⟩

set_option maxHeartbeats 4000000 in
set_option maxRecDepth 100000 in
theorem L_X10_afloat (hM : MAt h u M) {sn : Nat} (hn : sn ≤ 8) (hsn : M.2.1 10 = nI sn) {c : Int32} : ∀ (n i : Nat), i + n = sn → True → ∀ a : Int32, RunM l D cA N0 m_X10_afloat 2 0 0 (fun r h' => r = some (.int (kf (fun a j => a ||| (if 0 ≤ gx M.2.1 j 1 ∧ (c < 0 ∨ gx M.2.1 j 0 = c) then 1 <<< (nI j &&& 31) else 0)) a i n)) ∧ h' = h) h 0 0 4 [some (.ref u), some (.int c), some (.int a), some (.int (nI i))] [] := by
  intro n
  induction n with
  | zero =>
    intro i hin hinv a
    have hie : i = sn := by omega
    subst hie
    have q0 : h = mput h u M := (mput_self hM).symm
    have mo0 := hM.o
    have ms0 := hM.s
    have mb0 := hM.b
    have mt0 := hM.t
    have mn0 := hM.n
    have mc0 := hM.c
    refine R_iload_n3 (pc := 4) dX10_afloat_4 ?_
    refine R_aload_n0 (pc := 5) dX10_afloat_5 ?_
    refine G_X10_7 (pc := 6) dX10_afloat_6 (by assumption) ?_
    refine R_bipush (pc := 9) (v := 10) dX10_afloat_9 (by decide) ?_
    refine R_iald (pc := 11) dX10_afloat_11 (by assumption) (in_n (i := 10) (by decide) (by decide)) ?_
    rw [show ((10 : Int32)).toNatClampNeg = 10 from rfl]
    rw [hsn]
    refine R_icmp_ge (pc := 12) 53 dX10_afloat_12 (by decide) (fun c_12 => ?_) (fun c_12 => absurd (Int32.le_refl _) c_12)
    refine R_iload_n2 (pc := 53) dX10_afloat_53 ?_
    refine R_iret (pc := 54) rfl rfl dX10_afloat_54 ?_
    exact ⟨rfl, rfl⟩
  | succ n ih =>
    intro i hin hinv a
    have hlt : i < sn := by omega
    have q0 : h = mput h u M := (mput_self hM).symm
    have mo0 := hM.o
    have ms0 := hM.s
    have mb0 := hM.b
    have mt0 := hM.t
    have mn0 := hM.n
    have mc0 := hM.c
    refine R_iload_n3 (pc := 4) dX10_afloat_4 ?_
    refine R_aload_n0 (pc := 5) dX10_afloat_5 ?_
    refine G_X10_7 (pc := 6) dX10_afloat_6 (by assumption) ?_
    refine R_bipush (pc := 9) (v := 10) dX10_afloat_9 (by decide) ?_
    refine R_iald (pc := 11) dX10_afloat_11 (by assumption) (in_n (i := 10) (by decide) (by decide)) ?_
    rw [show ((10 : Int32)).toNatClampNeg = 10 from rfl]
    rw [hsn]
    refine R_icmp_ge (pc := 12) 53 dX10_afloat_12 (by decide) (fun c_12 => absurd c_12 (nI_ge hlt (by omega))) (fun c_12 => ?_)
    refine R_iload_n2 (pc := 15) dX10_afloat_15 ?_
    refine R_aload_n0 (pc := 16) dX10_afloat_16 ?_
    refine R_iload_n3 (pc := 17) dX10_afloat_17 ?_
    refine R_callV1 (pc := 18) (T := TX10) cal_X10_floats kw962 kw964 kw33 dX10_afloat_18 (c_X10_floats hM (show i < 8 by omega)) (by decide) (Nat.le_of_ble_eq_true rfl) (ci := 8) rfl (by assumption) ?_
    rintro _ _ ⟨rfl, rfl⟩
    refine R_ifb_eq (pc := 21) 44 dX10_afloat_21 (by decide) (fun c_21 => ?_) (fun c_21 => ?_)
    · skip
      refine R_iconst (pc := 44) (v := 0) dX10_afloat_44 (by decide) ?_
      refine R_ior (pc := 45) dX10_afloat_45 ?_
      refine R_istore_n2 (pc := 46) dX10_afloat_46 rfl (by decide) ?_
      refine R_iinc3 (pc := 47) dX10_afloat_47 rfl (by decide) ?_
      refine R_goto (pc := 50) 4 dX10_afloat_50 (by decide) ?_
      rw [nI_s, kf_s]
      have hif : (if 0 ≤ gx M.2.1 i 1 ∧ (c < 0 ∨ gx M.2.1 i 0 = c) then (1 : Int32) <<< (nI i &&& 31) else 0) = 0 := if_neg (fun z => c_21 z.1)
      rw [hif]
      exact ih (i + 1) (by omega) trivial _
    · skip
      refine R_iload_n1 (pc := 24) dX10_afloat_24 ?_
      refine R_if_lt (pc := 25) 38 dX10_afloat_25 (by decide) (fun c_25 => ?_) (fun c_25 => ?_)
      · skip
        have d_25 := Int32.not_le.mpr c_25
        refine R_iconst (pc := 38) (v := 1) dX10_afloat_38 (by decide) ?_
        refine R_iload_n3 (pc := 39) dX10_afloat_39 ?_
        refine R_ishl (pc := 40) dX10_afloat_40 ?_
        refine R_goto (pc := 41) 45 dX10_afloat_41 (by decide) ?_
        refine R_ior (pc := 45) dX10_afloat_45 ?_
        refine R_istore_n2 (pc := 46) dX10_afloat_46 rfl (by decide) ?_
        refine R_iinc3 (pc := 47) dX10_afloat_47 rfl (by decide) ?_
        refine R_goto (pc := 50) 4 dX10_afloat_50 (by decide) ?_
        rw [nI_s, kf_s]
        have hif : (if 0 ≤ gx M.2.1 i 1 ∧ (c < 0 ∨ gx M.2.1 i 0 = c) then (1 : Int32) <<< (nI i &&& 31) else 0) = 1 <<< (nI i &&& 31) := if_pos ⟨c_21, Or.inl c_25⟩
        rw [hif]
        exact ih (i + 1) (by omega) trivial _
      · skip
        have d_25 := Int32.not_lt.mp c_25
        refine R_aload_n0 (pc := 28) dX10_afloat_28 ?_
        refine R_iload_n3 (pc := 29) dX10_afloat_29 ?_
        refine R_iconst (pc := 30) (v := 0) dX10_afloat_30 (by decide) ?_
        refine R_callV2 (pc := 31) (T := TX10) cal_X10_get kw899 kw901 kw25 dX10_afloat_31 (c_X10_get hM (show i < 8 by omega) (k := 0) (by decide)) (by decide) (Nat.le_of_ble_eq_true rfl) (ci := 8) rfl (by assumption) ?_
        rintro _ _ ⟨rfl, rfl⟩
        refine R_iload_n1 (pc := 34) dX10_afloat_34 ?_
        refine R_icmp_ne (pc := 35) 44 dX10_afloat_35 (by decide) (fun c_35 => ?_) (fun c_35 => ?_)
        · skip
          refine R_iconst (pc := 44) (v := 0) dX10_afloat_44 (by decide) ?_
          refine R_ior (pc := 45) dX10_afloat_45 ?_
          refine R_istore_n2 (pc := 46) dX10_afloat_46 rfl (by decide) ?_
          refine R_iinc3 (pc := 47) dX10_afloat_47 rfl (by decide) ?_
          refine R_goto (pc := 50) 4 dX10_afloat_50 (by decide) ?_
          rw [nI_s, kf_s]
          have hif : (if 0 ≤ gx M.2.1 i 1 ∧ (c < 0 ∨ gx M.2.1 i 0 = c) then (1 : Int32) <<< (nI i &&& 31) else 0) = 0 := if_neg (fun z => z.2.elim c_25 c_35)
          rw [hif]
          exact ih (i + 1) (by omega) trivial _
        · skip
          refine R_iconst (pc := 38) (v := 1) dX10_afloat_38 (by decide) ?_
          refine R_iload_n3 (pc := 39) dX10_afloat_39 ?_
          refine R_ishl (pc := 40) dX10_afloat_40 ?_
          refine R_goto (pc := 41) 45 dX10_afloat_41 (by decide) ?_
          refine R_ior (pc := 45) dX10_afloat_45 ?_
          refine R_istore_n2 (pc := 46) dX10_afloat_46 rfl (by decide) ?_
          refine R_iinc3 (pc := 47) dX10_afloat_47 rfl (by decide) ?_
          refine R_goto (pc := 50) 4 dX10_afloat_50 (by decide) ?_
          rw [nI_s, kf_s]
          have hif : (if 0 ≤ gx M.2.1 i 1 ∧ (c < 0 ∨ gx M.2.1 i 0 = c) then (1 : Int32) <<< (nI i &&& 31) else 0) = 1 <<< (nI i &&& 31) := if_pos ⟨c_21, Or.inr c_35⟩
          rw [hif]
          exact ih (i + 1) (by omega) trivial _

set_option maxHeartbeats 4000000 in
set_option maxRecDepth 100000 in
theorem c_X10_afloat (hM : MAt h u M) {sn : Nat} (hn : sn ≤ 8) (hsn : M.2.1 10 = nI sn) {c : Int32} : Spec l D cA N0 m_X10_afloat 2 0 0 [.ref u, .int c] h (fun r h' => r = some (.int (z_afl M.2.1 sn c)) ∧ h' = h) := by
  refine Spec.of (L := [some (.ref u), some (.int c), none, none]) (by decide) rfl (Nat.le_of_ble_eq_true rfl) ?_
  have q0 : h = mput h u M := (mput_self hM).symm
  have mo0 := hM.o
  have ms0 := hM.s
  have mb0 := hM.b
  have mt0 := hM.t
  have mn0 := hM.n
  have mc0 := hM.c
  refine R_iconst (pc := 0) (v := 0) dX10_afloat_0 (by decide) ?_
  refine R_istore_n2 (pc := 1) dX10_afloat_1 rfl (by decide) ?_
  refine R_iconst (pc := 2) (v := 0) dX10_afloat_2 (by decide) ?_
  refine R_istore_n3 (pc := 3) dX10_afloat_3 rfl (by decide) ?_
  exact L_X10_afloat hM hn hsn sn 0 (Nat.zero_add sn) trivial 0

end LV24
