/-! THE REFERENCE: its public reading methods -/
def zp_count (M : Mm) (sn : Nat) (v : Int32) : Int32 := if v = 0 then M.2.1 0 else if v = 1 then M.2.1 1 else if v = 2 then M.2.1 2 else if v = 3 then M.2.1 3 else if v = 4 then z_told M.2.1 else if v = 5 then M.2.1 10 else if v = 6 then z_afl M.2.1 sn (-1) else if v = 7 then z_isls M.2.1 else if v = 8 then M.2.1 11 else if v = 9 then M.2.1 181 + M.2.1 182 else if v = 10 then M.1 3 else if v = 11 then M.1 4 else -1
def z_hulls (s : Nat → Int32) (own : Int32) (n : Nat) : Int32 := kf (fun a j => a + (if z_has own (nI j) = true then gx s j 3 else 0)) 0 0 n
def zp_cap (s : Nat → Int32) (sn : Nat) (c v : Int32) : Int32 := if (0 ≤ c ∧ c ≤ 1) ∧ 0 ≤ v ∧ v ≤ 4 then (if v = 0 then s (4 + c.toNatClampNeg) else if v = 1 then (if s (6 + c.toNatClampNeg) < 0 then -9 else s (6 + c.toNatClampNeg)) else if v = 2 then s (8 + c.toNatClampNeg) else if v = 3 then z_afl s sn c else z_hulls s (z_afl s sn c) sn) else -1
def zp_ship (s : Nat → Int32) (sn : Nat) (x v : Int32) : Int32 := if (0 ≤ x ∧ x < nI sn) ∧ 0 ≤ v ∧ v ≤ 10 then (if v = 1 ∨ v = 7 then (if gx s x.toNatClampNeg v.toNatClampNeg < 0 then -9 else gx s x.toNatClampNeg v.toNatClampNeg) else if v = 8 then z_steps s x.toNatClampNeg (s 2) (s 3) else if v = 9 then (if z_may s x.toNatClampNeg 0 = true then 0 else 1) + (if z_may s x.toNatClampNeg 1 = true then 0 else 2) else gx s x.toNatClampNeg v.toNatClampNeg) else -1
def zp_on (s : Nat → Int32) (sn : Nat) (x : Int32) : Int32 := if 0 ≤ x ∧ x ≤ 80 then (if s (12 + x.toNatClampNeg) = 1 then 8 else if z_onv (z_on s sn x) < 0 then -9 else z_onv (z_on s sn x)) else -1
def z_tg (s : Nat → Int32) (sn e : Nat) (side : Int32) (a : Int32) (j : Nat) : Int32 := a ||| (if ¬ nI j = nI e ∧ 0 < z_far s sn e side j then 1 <<< (nI j &&& 31) else 0)
def zp_targets (s : Nat → Int32) (sn : Nat) (x side : Int32) : Int32 := if (0 ≤ x ∧ x < nI sn) ∧ 0 ≤ side ∧ side ≤ 1 then kf (z_tg s sn x.toNatClampNeg side) 0 0 sn else -1
def z_th (s : Nat → Int32) (sn e : Nat) (a : Int32) (j : Nat) : Int32 := a ||| (if ¬ nI j = nI e ∧ (0 < z_far s sn j 0 e ∨ 0 < z_far s sn j 1 e) then 1 <<< (nI j &&& 31) else 0)
def zp_threats (s : Nat → Int32) (sn : Nat) (x : Int32) : Int32 := if (0 ≤ x ∧ x < nI sn) then kf (z_th s sn x.toNatClampNeg) 0 0 sn else -1
def zp_hits (s : Nat → Int32) (sn : Nat) (x side y : Int32) : Int32 := if ((0 ≤ x ∧ x < nI sn) ∧ (0 ≤ y ∧ y < nI sn) ∧ ¬ x = y) ∧ 0 ≤ side ∧ side ≤ 1 then (if z_far s sn x.toNatClampNeg side y.toNatClampNeg = 0 then -9 else z_hits s x.toNatClampNeg (z_far s sn x.toNatClampNeg side y.toNatClampNeg)) else -1
def z_8th (s : Nat → Int32) (own : Int32) (a : Int32) (j : Nat) : Int32 := a + (if z_has own (nI j) = true then 6 * gx s j 3 + 4 * gx s j 5 + gx s j 6 * gx s j 4 else 0)
def zp_strength (s : Nat → Int32) (sn : Nat) (c : Int32) : Int32 := if 0 ≤ c ∧ c ≤ 1 then kf (z_8th s (z_afl s sn c)) 0 0 sn / 8 else -1
def zp_wind (s : Nat → Int32) (x y : Int32) : Int32 := if (0 ≤ x ∧ x ≤ 5) ∧ 0 ≤ y ∧ y ≤ 5 then 10 * (s 2 + x + y - (s 2 + x + y) / 6 * 6) + (x + y - (x + y) / 3 * 3) + 1 else -1
/-- scratch alone has changed -/
def Ms (M M2 : Mm) : Prop := M2.2.1 = M.2.1 ∧ M2.2.2.1 = M.2.2.1 ∧ M2.2.2.2.1 = M.2.2.2.1 ∧ M2.1 3 = M.1 3 ∧ M2.1 4 = M.1 4 ∧ M2.1 6 = M.1 6
theorem Ms.rf (M : Mm) : Ms M M := ⟨rfl, rfl, rfl, rfl, rfl, rfl⟩
theorem Ms.f9 (M : Mm) (v : Int32) : Ms M (fM M 9 v) := ⟨rfl, rfl, rfl, rfl, rfl, rfl⟩
theorem Ms.gM (M : Mm) (x d : Int32) : Ms M (gM M x d) := ⟨rfl, rfl, rfl, rfl, rfl, rfl⟩
section LV27
variable {l : Launch} {D : va_G} {cA : Nat → ClassId} {N0 : Nat} {h : AH} {u : Nat} {M : Mm}
set_option maxHeartbeats 4000000 in
set_option maxRecDepth 100000 in
theorem c_X10_count (hM : MAt h u M) {sn : Nat} (hn : sn ≤ 8) (hsn : M.2.1 10 = nI sn) {v : Int32} : Spec l D cA N0 m_X10_count 3 0 0 [.ref u, .int v] h (fun r h' => r = some (.int (zp_count M sn v)) ∧ ∃ M2, h' = mput h u M2 ∧ Ms M M2) := by
  refine Spec.of (L := [some (.ref u), some (.int v)]) (by decide) rfl (Nat.le_of_ble_eq_true rfl) ?_
  have q0 : h = mput h u M := (mput_self hM).symm
  have mo0 := hM.o
  have ms0 := hM.s
  have mb0 := hM.b
  have mt0 := hM.t
  have mn0 := hM.n
  have mc0 := hM.c
  refine R_iload_n1 (pc := 0) dX10_count_0 ?_
  refine R_swG (pc := 1) (lo := 0) (hi := 11) 152 dX10_count_1 (by decide) (fun c_1 => ?_) (fun c_1 c_1b => ?_)
  · skip
    refine R_iconst (pc := 152) (v := (-1)) dX10_count_152 (by decide) ?_
    refine R_iret (pc := 153) rfl rfl dX10_count_153 ?_
    exact ⟨congrArg (fun z => some (Value.int z)) (by rw [zp_count, if_neg (fun z => sw_ne c_1 (v := 0) (by decide) z), if_neg (fun z => sw_ne c_1 (v := 1) (by decide) z), if_neg (fun z => sw_ne c_1 (v := 2) (by decide) z), if_neg (fun z => sw_ne c_1 (v := 3) (by decide) z), if_neg (fun z => sw_ne c_1 (v := 4) (by decide) z), if_neg (fun z => sw_ne c_1 (v := 5) (by decide) z), if_neg (fun z => sw_ne c_1 (v := 6) (by decide) z), if_neg (fun z => sw_ne c_1 (v := 7) (by decide) z), if_neg (fun z => sw_ne c_1 (v := 8) (by decide) z), if_neg (fun z => sw_ne c_1 (v := 9) (by decide) z), if_neg (fun z => sw_ne c_1 (v := 10) (by decide) z), if_neg (fun z => sw_ne c_1 (v := 11) (by decide) z)]), _, q0, Ms.rf M⟩
  · skip
    rcases sw_0_11 _ c_1 c_1b with c_1 | c_1 | c_1 | c_1 | c_1 | c_1 | c_1 | c_1 | c_1 | c_1 | c_1 | c_1
    · skip
      refine R_swE (pc := 1) (v := 0) (off := 63) 64 dX10_count_1 c_1 (by decide) (by decide) (by decide) (by decide) ?_
      refine R_aload_n0 (pc := 64) dX10_count_64 ?_
      refine G_X10_7 (pc := 65) dX10_count_65 (by assumption) ?_
      refine R_iconst (pc := 68) (v := 0) dX10_count_68 (by decide) ?_
      refine R_iald (pc := 69) dX10_count_69 (by assumption) (in_n (i := 0) (by decide) (by decide)) ?_
      rw [show ((0 : Int32)).toNatClampNeg = 0 from rfl]
      refine R_iret (pc := 70) rfl rfl dX10_count_70 ?_
      exact ⟨congrArg (fun z => some (Value.int z)) (by subst c_1; rfl), _, q0, Ms.rf M⟩
    · skip
      refine R_swE (pc := 1) (v := 1) (off := 70) 71 dX10_count_1 c_1 (by decide) (by decide) (by decide) (by decide) ?_
      refine R_aload_n0 (pc := 71) dX10_count_71 ?_
      refine G_X10_7 (pc := 72) dX10_count_72 (by assumption) ?_
      refine R_iconst (pc := 75) (v := 1) dX10_count_75 (by decide) ?_
      refine R_iald (pc := 76) dX10_count_76 (by assumption) (in_n (i := 1) (by decide) (by decide)) ?_
      rw [show ((1 : Int32)).toNatClampNeg = 1 from rfl]
      refine R_iret (pc := 77) rfl rfl dX10_count_77 ?_
      exact ⟨congrArg (fun z => some (Value.int z)) (by subst c_1; rfl), _, q0, Ms.rf M⟩
    · skip
      refine R_swE (pc := 1) (v := 2) (off := 77) 78 dX10_count_1 c_1 (by decide) (by decide) (by decide) (by decide) ?_
      refine R_aload_n0 (pc := 78) dX10_count_78 ?_
      refine G_X10_7 (pc := 79) dX10_count_79 (by assumption) ?_
      refine R_iconst (pc := 82) (v := 2) dX10_count_82 (by decide) ?_
      refine R_iald (pc := 83) dX10_count_83 (by assumption) (in_n (i := 2) (by decide) (by decide)) ?_
      rw [show ((2 : Int32)).toNatClampNeg = 2 from rfl]
      refine R_iret (pc := 84) rfl rfl dX10_count_84 ?_
      exact ⟨congrArg (fun z => some (Value.int z)) (by subst c_1; rfl), _, q0, Ms.rf M⟩
    · skip
      refine R_swE (pc := 1) (v := 3) (off := 84) 85 dX10_count_1 c_1 (by decide) (by decide) (by decide) (by decide) ?_
      refine R_aload_n0 (pc := 85) dX10_count_85 ?_
      refine G_X10_7 (pc := 86) dX10_count_86 (by assumption) ?_
      refine R_iconst (pc := 89) (v := 3) dX10_count_89 (by decide) ?_
      refine R_iald (pc := 90) dX10_count_90 (by assumption) (in_n (i := 3) (by decide) (by decide)) ?_
      rw [show ((3 : Int32)).toNatClampNeg = 3 from rfl]
      refine R_iret (pc := 91) rfl rfl dX10_count_91 ?_
      exact ⟨congrArg (fun z => some (Value.int z)) (by subst c_1; rfl), _, q0, Ms.rf M⟩
    · skip
      refine R_swE (pc := 1) (v := 4) (off := 91) 92 dX10_count_1 c_1 (by decide) (by decide) (by decide) (by decide) ?_
      refine R_aload_n0 (pc := 92) dX10_count_92 ?_
      refine R_callV0 (pc := 93) (T := TX10) cal_X10_toldSet kw946 kw948 kw31 dX10_count_93 (c_X10_toldSet hM) (by decide) (Nat.le_of_ble_eq_true rfl) (ci := 8) rfl (by assumption) ?_
      rintro _ _ ⟨rfl, rfl⟩
      refine R_iret (pc := 96) rfl rfl dX10_count_96 ?_
      exact ⟨congrArg (fun z => some (Value.int z)) (by subst c_1; rfl), _, q0, Ms.rf M⟩
    · skip
      refine R_swE (pc := 1) (v := 5) (off := 96) 97 dX10_count_1 c_1 (by decide) (by decide) (by decide) (by decide) ?_
      refine R_aload_n0 (pc := 97) dX10_count_97 ?_
      refine G_X10_7 (pc := 98) dX10_count_98 (by assumption) ?_
      refine R_bipush (pc := 101) (v := 10) dX10_count_101 (by decide) ?_
      refine R_iald (pc := 103) dX10_count_103 (by assumption) (in_n (i := 10) (by decide) (by decide)) ?_
      rw [show ((10 : Int32)).toNatClampNeg = 10 from rfl]
      refine R_iret (pc := 104) rfl rfl dX10_count_104 ?_
      exact ⟨congrArg (fun z => some (Value.int z)) (by subst c_1; rfl), _, q0, Ms.rf M⟩
    · skip
      refine R_swE (pc := 1) (v := 6) (off := 104) 105 dX10_count_1 c_1 (by decide) (by decide) (by decide) (by decide) ?_
      refine R_aload_n0 (pc := 105) dX10_count_105 ?_
      refine R_iconst (pc := 106) (v := (-1)) dX10_count_106 (by decide) ?_
      refine R_callV1 (pc := 107) (T := TX10) cal_X10_afloat kw1108 kw1110 kw52 dX10_count_107 (c_X10_afloat hM hn hsn) (by decide) (Nat.le_of_ble_eq_true rfl) (ci := 8) rfl (by assumption) ?_
      rintro _ _ ⟨rfl, rfl⟩
      refine R_iret (pc := 110) rfl rfl dX10_count_110 ?_
      exact ⟨congrArg (fun z => some (Value.int z)) (by subst c_1; rfl), _, q0, Ms.rf M⟩
    · skip
      refine R_swE (pc := 1) (v := 7) (off := 110) 111 dX10_count_1 c_1 (by decide) (by decide) (by decide) (by decide) ?_
      refine R_aload_n0 (pc := 111) dX10_count_111 ?_
      refine R_callV0 (pc := 112) (T := TX10) cal_X10_islands kw911 kw913 kw28 dX10_count_112 (c_X10_islands hM) (by decide) (Nat.le_of_ble_eq_true rfl) (ci := 8) rfl (by assumption) ?_
      rintro _ _ ⟨rfl, rfl⟩
      refine R_iret (pc := 115) rfl rfl dX10_count_115 ?_
      exact ⟨congrArg (fun z => some (Value.int z)) (by subst c_1; rfl), _, q0, Ms.rf M⟩
    · skip
      refine R_swE (pc := 1) (v := 8) (off := 115) 116 dX10_count_1 c_1 (by decide) (by decide) (by decide) (by decide) ?_
      refine R_aload_n0 (pc := 116) dX10_count_116 ?_
      refine G_X10_7 (pc := 117) dX10_count_117 (by assumption) ?_
      refine R_bipush (pc := 120) (v := 11) dX10_count_120 (by decide) ?_
      refine R_iald (pc := 122) dX10_count_122 (by assumption) (in_n (i := 11) (by decide) (by decide)) ?_
      rw [show ((11 : Int32)).toNatClampNeg = 11 from rfl]
      refine R_iret (pc := 123) rfl rfl dX10_count_123 ?_
      exact ⟨congrArg (fun z => some (Value.int z)) (by subst c_1; rfl), _, q0, Ms.rf M⟩
    · skip
      refine R_swE (pc := 1) (v := 9) (off := 123) 124 dX10_count_1 c_1 (by decide) (by decide) (by decide) (by decide) ?_
      refine R_aload_n0 (pc := 124) dX10_count_124 ?_
      refine G_X10_7 (pc := 125) dX10_count_125 (by assumption) ?_
      refine R_sipush (pc := 128) (v := 181) dX10_count_128 (by decide) ?_
      refine R_iald (pc := 131) dX10_count_131 (by assumption) (in_n (i := 181) (by decide) (by decide)) ?_
      rw [show ((181 : Int32)).toNatClampNeg = 181 from rfl]
      refine R_aload_n0 (pc := 132) dX10_count_132 ?_
      refine G_X10_7 (pc := 133) dX10_count_133 (by assumption) ?_
      refine R_sipush (pc := 136) (v := 182) dX10_count_136 (by decide) ?_
      refine R_iald (pc := 139) dX10_count_139 (by assumption) (in_n (i := 182) (by decide) (by decide)) ?_
      rw [show ((182 : Int32)).toNatClampNeg = 182 from rfl]
      refine R_iadd (pc := 140) dX10_count_140 ?_
      refine R_iret (pc := 141) rfl rfl dX10_count_141 ?_
      exact ⟨congrArg (fun z => some (Value.int z)) (by subst c_1; rfl), _, q0, Ms.rf M⟩
    · skip
      refine R_swE (pc := 1) (v := 10) (off := 141) 142 dX10_count_1 c_1 (by decide) (by decide) (by decide) (by decide) ?_
      refine R_aload_n0 (pc := 142) dX10_count_142 ?_
      refine G_X10_29 (pc := 143) dX10_count_143 (by assumption) ?_
      refine R_iret (pc := 146) rfl rfl dX10_count_146 ?_
      exact ⟨congrArg (fun z => some (Value.int z)) (by subst c_1; rfl), _, q0, Ms.rf M⟩
    · skip
      refine R_swE (pc := 1) (v := 11) (off := 146) 147 dX10_count_1 c_1 (by decide) (by decide) (by decide) (by decide) ?_
      refine R_aload_n0 (pc := 147) dX10_count_147 ?_
      refine G_X10_162 (pc := 148) dX10_count_148 (by assumption) ?_
      refine R_iret (pc := 151) rfl rfl dX10_count_151 ?_
      exact ⟨congrArg (fun z => some (Value.int z)) (by subst c_1; rfl), _, q0, Ms.rf M⟩

set_option maxHeartbeats 4000000 in
set_option maxRecDepth 100000 in
theorem L_X10_captain (hM : MAt h u M) {sn : Nat} (hn : sn ≤ 8) (hsn : M.2.1 10 = nI sn) {c v own : Int32} (hc : ∃ k, k < 2 ∧ c = nI k) : ∀ (n i : Nat), i + n = sn → True → ∀ a : Int32, RunM l D cA N0 m_X10_captain 3 0 0 (fun r h' => r = some (.int (if v = 0 then M.2.1 (4 + c.toNatClampNeg) else if v = 1 then (if M.2.1 (6 + c.toNatClampNeg) < 0 then -9 else M.2.1 (6 + c.toNatClampNeg)) else if v = 2 then M.2.1 (8 + c.toNatClampNeg) else if v = 3 then own else kf (fun a j => a + (if z_has own (nI j) = true then gx M.2.1 j 3 else 0)) a i n)) ∧ h' = h) h 0 0 33 [some (.ref u), some (.int c), some (.int v), some (.int own), some (.int a), some (.int (nI i))] [] := by
  intro n
  induction n with
  | zero =>
    intro i hin hinv a
    have hie : i = sn := by omega
    subst hie
    have q0 : h = mput h u M := (mput_self hM).symm
    have mo0 := hM.o
    have ms0 := hM.s
    have mb0 := hM.b
    have mt0 := hM.t
    have mn0 := hM.n
    have mc0 := hM.c
    obtain ⟨k, hk, ek⟩ := hc
    subst ek
    refine R_iload5 (pc := 33) dX10_captain_33 ?_
    refine R_aload_n0 (pc := 35) dX10_captain_35 ?_
    refine G_X10_7 (pc := 36) dX10_captain_36 (by assumption) ?_
    refine R_bipush (pc := 39) (v := 10) dX10_captain_39 (by decide) ?_
    refine R_iald (pc := 41) dX10_captain_41 (by assumption) (in_n (i := 10) (by decide) (by decide)) ?_
    rw [show ((10 : Int32)).toNatClampNeg = 10 from rfl]
    rw [hsn]
    refine R_icmp_ge (pc := 42) 76 dX10_captain_42 (by decide) (fun c_42 => ?_) (fun c_42 => absurd (Int32.le_refl _) c_42)
    refine R_iload_n2 (pc := 76) dX10_captain_76 ?_
    refine R_if_ne (pc := 77) 91 dX10_captain_77 (by decide) (fun c_77 => ?_) (fun c_77 => ?_)
    · skip
      refine R_iload_n2 (pc := 91) dX10_captain_91 ?_
      refine R_iconst (pc := 92) (v := 1) dX10_captain_92 (by decide) ?_
      refine R_icmp_ne (pc := 93) 125 dX10_captain_93 (by decide) (fun c_93 => ?_) (fun c_93 => ?_)
      · skip
        refine R_iload_n2 (pc := 125) dX10_captain_125 ?_
        refine R_iconst (pc := 126) (v := 2) dX10_captain_126 (by decide) ?_
        refine R_icmp_ne (pc := 127) 142 dX10_captain_127 (by decide) (fun c_127 => ?_) (fun c_127 => ?_)
        · skip
          refine R_iload_n2 (pc := 142) dX10_captain_142 ?_
          refine R_iconst (pc := 143) (v := 3) dX10_captain_143 (by decide) ?_
          refine R_icmp_ne (pc := 144) 151 dX10_captain_144 (by decide) (fun c_144 => ?_) (fun c_144 => ?_)
          · skip
            refine R_iload4 (pc := 151) dX10_captain_151 ?_
            refine R_iret (pc := 153) rfl rfl dX10_captain_153 ?_
            exact ⟨congrArg (fun z => some (Value.int z)) (by rw [nI_clamp (show k < 2 ^ 31 by omega)]; simp (decide := true) only [c_42, c_77, c_93, c_127, c_144, kf, reduceCtorEq, if_true, if_false, reduceIte, and_true, true_and, and_false, false_and, and_self, or_true, true_or, or_false, false_or, or_self, not_true, not_false_iff]), rfl⟩
          · skip
            refine R_iload_n3 (pc := 147) dX10_captain_147 ?_
            refine R_goto (pc := 148) 153 dX10_captain_148 (by decide) ?_
            refine R_iret (pc := 153) rfl rfl dX10_captain_153 ?_
            exact ⟨congrArg (fun z => some (Value.int z)) (by rw [nI_clamp (show k < 2 ^ 31 by omega)]; simp (decide := true) only [c_42, c_77, c_93, c_127, c_144, kf, reduceCtorEq, if_true, if_false, reduceIte, and_true, true_and, and_false, false_and, and_self, or_true, true_or, or_false, false_or, or_self, not_true, not_false_iff]), rfl⟩
        · skip
          refine R_aload_n0 (pc := 130) dX10_captain_130 ?_
          refine G_X10_7 (pc := 131) dX10_captain_131 (by assumption) ?_
          refine R_bipush (pc := 134) (v := 8) dX10_captain_134 (by decide) ?_
          refine R_iload_n1 (pc := 136) dX10_captain_136 ?_
          refine R_iadd (pc := 137) dX10_captain_137 ?_
          rw [show (8 : Int32) + nI k = nI (8 + k) from nI_add 8 k]
          refine R_iald (pc := 138) dX10_captain_138 (by assumption) (in_n (show 8 + k < 545 by omega) (by decide)) ?_
          rw [nI_clamp (show 8 + k < 2 ^ 31 by omega)]
          refine R_goto (pc := 139) 153 dX10_captain_139 (by decide) ?_
          refine R_iret (pc := 153) rfl rfl dX10_captain_153 ?_
          exact ⟨congrArg (fun z => some (Value.int z)) (by rw [nI_clamp (show k < 2 ^ 31 by omega)]; simp (decide := true) only [c_42, c_77, c_93, c_127, kf, reduceCtorEq, if_true, if_false, reduceIte, and_true, true_and, and_false, false_and, and_self, or_true, true_or, or_false, false_or, or_self, not_true, not_false_iff]), rfl⟩
      · skip
        refine R_aload_n0 (pc := 96) dX10_captain_96 ?_
        refine G_X10_7 (pc := 97) dX10_captain_97 (by assumption) ?_
        refine R_bipush (pc := 100) (v := 6) dX10_captain_100 (by decide) ?_
        refine R_iload_n1 (pc := 102) dX10_captain_102 ?_
        refine R_iadd (pc := 103) dX10_captain_103 ?_
        rw [show (6 : Int32) + nI k = nI (6 + k) from nI_add 6 k]
        refine R_iald (pc := 104) dX10_captain_104 (by assumption) (in_n (show 6 + k < 545 by omega) (by decide)) ?_
        rw [nI_clamp (show 6 + k < 2 ^ 31 by omega)]
        refine R_if_ge (pc := 105) 113 dX10_captain_105 (by decide) (fun c_105 => ?_) (fun c_105 => ?_)
        · skip
          have d_105 := Int32.not_lt.mpr c_105
          refine R_aload_n0 (pc := 113) dX10_captain_113 ?_
          refine G_X10_7 (pc := 114) dX10_captain_114 (by assumption) ?_
          refine R_bipush (pc := 117) (v := 6) dX10_captain_117 (by decide) ?_
          refine R_iload_n1 (pc := 119) dX10_captain_119 ?_
          refine R_iadd (pc := 120) dX10_captain_120 ?_
          rw [show (6 : Int32) + nI k = nI (6 + k) from nI_add 6 k]
          refine R_iald (pc := 121) dX10_captain_121 (by assumption) (in_n (show 6 + k < 545 by omega) (by decide)) ?_
          rw [nI_clamp (show 6 + k < 2 ^ 31 by omega)]
          refine R_goto (pc := 122) 153 dX10_captain_122 (by decide) ?_
          refine R_iret (pc := 153) rfl rfl dX10_captain_153 ?_
          exact ⟨congrArg (fun z => some (Value.int z)) (by rw [nI_clamp (show k < 2 ^ 31 by omega)]; simp (decide := true) only [c_42, c_77, c_93, c_105, d_105, kf, reduceCtorEq, if_true, if_false, reduceIte, and_true, true_and, and_false, false_and, and_self, or_true, true_or, or_false, false_or, or_self, not_true, not_false_iff]), rfl⟩
        · skip
          have d_105 := Int32.not_le.mp c_105
          refine R_bipush (pc := 108) (v := (-9)) dX10_captain_108 (by decide) ?_
          refine R_goto (pc := 110) 153 dX10_captain_110 (by decide) ?_
          refine R_iret (pc := 153) rfl rfl dX10_captain_153 ?_
          exact ⟨congrArg (fun z => some (Value.int z)) (by rw [nI_clamp (show k < 2 ^ 31 by omega)]; simp (decide := true) only [c_42, c_77, c_93, c_105, d_105, kf, reduceCtorEq, if_true, if_false, reduceIte, and_true, true_and, and_false, false_and, and_self, or_true, true_or, or_false, false_or, or_self, not_true, not_false_iff]), rfl⟩
    · skip
      refine R_aload_n0 (pc := 80) dX10_captain_80 ?_
      refine G_X10_7 (pc := 81) dX10_captain_81 (by assumption) ?_
      refine R_iconst (pc := 84) (v := 4) dX10_captain_84 (by decide) ?_
      refine R_iload_n1 (pc := 85) dX10_captain_85 ?_
      refine R_iadd (pc := 86) dX10_captain_86 ?_
      rw [show (4 : Int32) + nI k = nI (4 + k) from nI_add 4 k]
      refine R_iald (pc := 87) dX10_captain_87 (by assumption) (in_n (show 4 + k < 545 by omega) (by decide)) ?_
      rw [nI_clamp (show 4 + k < 2 ^ 31 by omega)]
      refine R_goto (pc := 88) 153 dX10_captain_88 (by decide) ?_
      refine R_iret (pc := 153) rfl rfl dX10_captain_153 ?_
      exact ⟨congrArg (fun z => some (Value.int z)) (by rw [nI_clamp (show k < 2 ^ 31 by omega)]; simp (decide := true) only [c_42, c_77, kf, reduceCtorEq, if_true, if_false, reduceIte, and_true, true_and, and_false, false_and, and_self, or_true, true_or, or_false, false_or, or_self, not_true, not_false_iff]), rfl⟩
  | succ n ih =>
    intro i hin hinv a
    have hlt : i < sn := by omega
    have q0 : h = mput h u M := (mput_self hM).symm
    have mo0 := hM.o
    have ms0 := hM.s
    have mb0 := hM.b
    have mt0 := hM.t
    have mn0 := hM.n
    have mc0 := hM.c
    have hck := hc
    obtain ⟨k, hk, ek⟩ := hc
    refine R_iload5 (pc := 33) dX10_captain_33 ?_
    refine R_aload_n0 (pc := 35) dX10_captain_35 ?_
    refine G_X10_7 (pc := 36) dX10_captain_36 (by assumption) ?_
    refine R_bipush (pc := 39) (v := 10) dX10_captain_39 (by decide) ?_
    refine R_iald (pc := 41) dX10_captain_41 (by assumption) (in_n (i := 10) (by decide) (by decide)) ?_
    rw [show ((10 : Int32)).toNatClampNeg = 10 from rfl]
    rw [hsn]
    refine R_icmp_ge (pc := 42) 76 dX10_captain_42 (by decide) (fun c_42 => absurd c_42 (nI_ge hlt (by omega))) (fun c_42 => ?_)
    refine R_iload4 (pc := 45) dX10_captain_45 ?_
    refine R_iload_n3 (pc := 47) dX10_captain_47 ?_
    refine R_iload5 (pc := 48) dX10_captain_48 ?_
    refine R_callS2 (pc := 50) cal_X10_has kw943 kw944 dX10_captain_50 c_X10_has (by decide) (Nat.le_of_ble_eq_true rfl) ?_
    rintro _ _ ⟨rfl, rfl⟩
    refine R_ifb_eq (pc := 53) 66 dX10_captain_53 (by decide) (fun c_53 => ?_) (fun c_53 => ?_)
    · skip
      refine R_iconst (pc := 66) (v := 0) dX10_captain_66 (by decide) ?_
      refine R_iadd (pc := 67) dX10_captain_67 ?_
      refine R_istore4 (pc := 68) dX10_captain_68 rfl (by decide) ?_
      refine R_iinc5 (pc := 70) dX10_captain_70 rfl (by decide) ?_
      refine R_goto (pc := 73) 33 dX10_captain_73 (by decide) ?_
      rw [nI_s]
      rw [kf_s, if_neg c_53]
      exact ih (i + 1) (by omega) trivial _
    · skip
      refine R_aload_n0 (pc := 56) dX10_captain_56 ?_
      refine R_iload5 (pc := 57) dX10_captain_57 ?_
      refine R_iconst (pc := 59) (v := 3) dX10_captain_59 (by decide) ?_
      refine R_callV2 (pc := 60) (T := TX10) cal_X10_get kw899 kw901 kw25 dX10_captain_60 (c_X10_get hM (show i < 8 by omega) (k := 3) (by decide)) (by decide) (Nat.le_of_ble_eq_true rfl) (ci := 8) rfl (by assumption) ?_
      rintro _ _ ⟨rfl, rfl⟩
      refine R_goto (pc := 63) 67 dX10_captain_63 (by decide) ?_
      refine R_iadd (pc := 67) dX10_captain_67 ?_
      refine R_istore4 (pc := 68) dX10_captain_68 rfl (by decide) ?_
      refine R_iinc5 (pc := 70) dX10_captain_70 rfl (by decide) ?_
      refine R_goto (pc := 73) 33 dX10_captain_73 (by decide) ?_
      rw [nI_s]
      rw [kf_s, if_pos c_53]
      exact ih (i + 1) (by omega) trivial _

set_option maxHeartbeats 4000000 in
set_option maxRecDepth 100000 in
theorem c_X10_captain (hM : MAt h u M) {sn : Nat} (hn : sn ≤ 8) (hsn : M.2.1 10 = nI sn) {c v : Int32} : Spec l D cA N0 m_X10_captain 3 0 0 [.ref u, .int c, .int v] h (fun r h' => r = some (.int (zp_cap M.2.1 sn c v)) ∧ ∃ M2, h' = mput h u M2 ∧ Ms M M2) := by
  refine Spec.of (L := [some (.ref u), some (.int c), some (.int v), none, none, none]) (by decide) rfl (Nat.le_of_ble_eq_true rfl) ?_
  have q0 : h = mput h u M := (mput_self hM).symm
  have mo0 := hM.o
  have ms0 := hM.s
  have mb0 := hM.b
  have mt0 := hM.t
  have mn0 := hM.n
  have mc0 := hM.c
  refine R_iload_n1 (pc := 0) dX10_captain_0 ?_
  refine R_callS1 (pc := 1) cal_X10_isCaptain kw919 kw920 dX10_captain_1 c_X10_isCaptain (by decide) (Nat.le_of_ble_eq_true rfl) ?_
  rintro _ _ ⟨rfl, rfl⟩
  refine R_ifb_eq (pc := 4) 19 dX10_captain_4 (by decide) (fun c_4 => ?_) (fun c_4 => ?_)
  · skip
    refine R_iconst (pc := 19) (v := (-1)) dX10_captain_19 (by decide) ?_
    refine R_iret (pc := 20) rfl rfl dX10_captain_20 ?_
    exact ⟨by rw [zp_cap, if_neg (fun z => c_4 z.1)], _, q0, Ms.rf M⟩
  · skip
    refine R_iload_n2 (pc := 7) dX10_captain_7 ?_
    refine R_i2l (pc := 8) dX10_captain_8 ?_
    refine R_lconst (pc := 9) (v := 0) dX10_captain_9 (by decide) ?_
    refine R_ldc2 (pc := 10) dX10_captain_10 kw1116 ?_
    refine R_callS3 (pc := 13) cal_X10_in kw892 kw893 dX10_captain_13 (c_X10_in rfl (lo := 0) (by decide) (hi := 4) (by decide)) (by decide) (Nat.le_of_ble_eq_true rfl) ?_
    rintro _ _ ⟨rfl, rfl⟩
    refine R_ifb_ne (pc := 16) 21 dX10_captain_16 (by decide) (fun c_16 => ?_) (fun c_16 => ?_)
    · skip
      refine R_aload_n0 (pc := 21) dX10_captain_21 ?_
      refine R_iload_n1 (pc := 22) dX10_captain_22 ?_
      refine R_callV1 (pc := 23) (T := TX10) cal_X10_afloat kw1108 kw1110 kw52 dX10_captain_23 (c_X10_afloat hM hn hsn) (by decide) (Nat.le_of_ble_eq_true rfl) (ci := 8) rfl (by assumption) ?_
      rintro _ _ ⟨rfl, rfl⟩
      refine R_istore_n3 (pc := 26) dX10_captain_26 rfl (by decide) ?_
      refine R_iconst (pc := 27) (v := 0) dX10_captain_27 (by decide) ?_
      refine R_istore4 (pc := 28) dX10_captain_28 rfl (by decide) ?_
      refine R_iconst (pc := 30) (v := 0) dX10_captain_30 (by decide) ?_
      refine R_istore5 (pc := 31) dX10_captain_31 rfl (by decide) ?_
      refine R_post (fun r h9 q9 => ?_) (L_X10_captain hM hn hsn (ge0 (n := 1) c_4.1 (by decide) c_4.2 |> fun ⟨k, a, b⟩ => ⟨k, by omega, b⟩) sn 0 (Nat.zero_add sn) trivial 0)
      rw [zp_cap, if_pos ⟨c_4, c_16⟩, z_hulls]
      exact ⟨q9.1, M, q9.2.trans (mput_self hM).symm, Ms.rf M⟩
    · skip
      refine R_iconst (pc := 19) (v := (-1)) dX10_captain_19 (by decide) ?_
      refine R_iret (pc := 20) rfl rfl dX10_captain_20 ?_
      exact ⟨by rw [zp_cap, if_neg (fun z => c_16 z.2)], _, q0, Ms.rf M⟩

end LV27
