/-! THE REFERENCE: orders are carried out -/
def z_obey (M : Mm) (sn m : Nat) (x : Int32) (nu : Nat → Int32) : Int32 × Mm := if x = 116 then zw_tell M m (nu 0) (nu 1) else if x = 115 then zw_sail M sn m (nu 0) (nu 1) else if x = 102 then zw_fire M sn m (nu 0) (nu 1) (nu 2) else if x = 103 then zw_grap M sn m (nu 0) (nu 1) else if x = 120 then zw_cut M sn m (nu 0) else if x = 114 then zw_rep M sn m (nu 0) (nu 1) else zw_end M sn m
section LV39
variable {l : Launch} {D : va_G} {cA : Nat → ClassId} {N0 : Nat} {h : AH} {u : Nat} {M : Mm}
set_option maxHeartbeats 4000000 in
set_option maxRecDepth 100000 in
theorem c_X10_doOrder (hM : MAt h u M) {sn : Nat} (hn : sn ≤ 8) (hsn : M.2.1 10 = nI sn) {m : Nat} (hm : m ≤ 6) (hmu : M.1 3 = nI m) (hwk : Wok M.2.1) (hcp : ∀ e, e < sn → ∃ c, c < 2 ∧ gx M.2.1 e 0 = nI c) {x : Int32} : Spec l D cA N0 m_X10_doOrder 5 0 0 [.ref u, .int x] h (fun r h' => r = some (.int (z_obey M sn m x M.2.2.2.2.1).1) ∧ ∃ M2, h' = mput h u M2 ∧ Ms (z_obey M sn m x M.2.2.2.2.1).2 M2) := by
  refine Spec.of (L := [some (.ref u), some (.int x)]) (by decide) rfl (Nat.le_of_ble_eq_true rfl) ?_
  have q0 : h = mput h u M := (mput_self hM).symm
  have mo0 := hM.o
  have ms0 := hM.s
  have mb0 := hM.b
  have mt0 := hM.t
  have mn0 := hM.n
  have mc0 := hM.c
  refine R_iload_n1 (pc := 0) dX10_doOrder_0 ?_
  refine R_swG (pc := 1) (lo := 102) (hi := 120) 194 dX10_doOrder_1 (by decide) (fun c_1 => ?_) (fun c_1 c_1b => ?_)
  · skip
    refine R_aload_n0 (pc := 194) dX10_doOrder_194 ?_
    refine R_callV0 (pc := 195) (T := TX10) cal_X10_end kw1103 kw1034 kw1035 dX10_doOrder_195 (c_X10_end hM hn hsn hm hmu hwk) (by decide) (Nat.le_of_ble_eq_true rfl) (ci := 8) rfl (by assumption) ?_
    rintro _ h195 ⟨rfl, M195, e195, s195⟩
    refine R_iret (pc := 198) rfl rfl dX10_doOrder_198 ?_
    exact ⟨by rw [z_obey, if_neg (fun z => sw_ne c_1 (v := 116) (by decide) z), if_neg (fun z => sw_ne c_1 (v := 115) (by decide) z), if_neg (fun z => sw_ne c_1 (v := 102) (by decide) z), if_neg (fun z => sw_ne c_1 (v := 103) (by decide) z), if_neg (fun z => sw_ne c_1 (v := 120) (by decide) z), if_neg (fun z => sw_ne c_1 (v := 114) (by decide) z)], M195, e195, by rw [z_obey, if_neg (fun z => sw_ne c_1 (v := 116) (by decide) z), if_neg (fun z => sw_ne c_1 (v := 115) (by decide) z), if_neg (fun z => sw_ne c_1 (v := 102) (by decide) z), if_neg (fun z => sw_ne c_1 (v := 103) (by decide) z), if_neg (fun z => sw_ne c_1 (v := 120) (by decide) z), if_neg (fun z => sw_ne c_1 (v := 114) (by decide) z)]; exact s195⟩
  · skip
    rcases sw_102_120 _ c_1 c_1b with c_1 | c_1 | c_1 | c_1 | c_1 | c_1 | c_1 | c_1 | c_1 | c_1 | c_1 | c_1 | c_1 | c_1 | c_1 | c_1 | c_1 | c_1 | c_1
    · skip
      refine R_swE (pc := 1) (v := 102) (off := 125) 126 dX10_doOrder_1 c_1 (by decide) (by decide) (by decide) (by decide) ?_
      refine R_aload_n0 (pc := 126) dX10_doOrder_126 ?_
      refine R_aload_n0 (pc := 127) dX10_doOrder_127 ?_
      refine G_X10_22 (pc := 128) dX10_doOrder_128 (by assumption) ?_
      refine R_iconst (pc := 131) (v := 0) dX10_doOrder_131 (by decide) ?_
      refine R_iald (pc := 132) dX10_doOrder_132 (by assumption) (in_n (i := 0) (by decide) (by decide)) ?_
      rw [show ((0 : Int32)).toNatClampNeg = 0 from rfl]
      refine R_aload_n0 (pc := 133) dX10_doOrder_133 ?_
      refine G_X10_22 (pc := 134) dX10_doOrder_134 (by assumption) ?_
      refine R_iconst (pc := 137) (v := 1) dX10_doOrder_137 (by decide) ?_
      refine R_iald (pc := 138) dX10_doOrder_138 (by assumption) (in_n (i := 1) (by decide) (by decide)) ?_
      rw [show ((1 : Int32)).toNatClampNeg = 1 from rfl]
      refine R_aload_n0 (pc := 139) dX10_doOrder_139 ?_
      refine G_X10_22 (pc := 140) dX10_doOrder_140 (by assumption) ?_
      refine R_iconst (pc := 143) (v := 2) dX10_doOrder_143 (by decide) ?_
      refine R_iald (pc := 144) dX10_doOrder_144 (by assumption) (in_n (i := 2) (by decide) (by decide)) ?_
      rw [show ((2 : Int32)).toNatClampNeg = 2 from rfl]
      refine R_callV3 (pc := 145) (T := TX10) cal_X10_fire kw1099 kw982 kw983 dX10_doOrder_145 (c_X10_fire hM hn hsn hm hmu hwk) (by decide) (Nat.le_of_ble_eq_true rfl) (ci := 8) rfl (by assumption) ?_
      rintro _ h145 ⟨rfl, M145, e145, s145⟩
      refine R_iret (pc := 148) rfl rfl dX10_doOrder_148 ?_
      subst c_1
      exact ⟨rfl, M145, e145, s145⟩
    · skip
      refine R_swE (pc := 1) (v := 103) (off := 148) 149 dX10_doOrder_1 c_1 (by decide) (by decide) (by decide) (by decide) ?_
      refine R_aload_n0 (pc := 149) dX10_doOrder_149 ?_
      refine R_aload_n0 (pc := 150) dX10_doOrder_150 ?_
      refine G_X10_22 (pc := 151) dX10_doOrder_151 (by assumption) ?_
      refine R_iconst (pc := 154) (v := 0) dX10_doOrder_154 (by decide) ?_
      refine R_iald (pc := 155) dX10_doOrder_155 (by assumption) (in_n (i := 0) (by decide) (by decide)) ?_
      rw [show ((0 : Int32)).toNatClampNeg = 0 from rfl]
      refine R_aload_n0 (pc := 156) dX10_doOrder_156 ?_
      refine G_X10_22 (pc := 157) dX10_doOrder_157 (by assumption) ?_
      refine R_iconst (pc := 160) (v := 1) dX10_doOrder_160 (by decide) ?_
      refine R_iald (pc := 161) dX10_doOrder_161 (by assumption) (in_n (i := 1) (by decide) (by decide)) ?_
      rw [show ((1 : Int32)).toNatClampNeg = 1 from rfl]
      refine R_callV2 (pc := 162) (T := TX10) cal_X10_grapple kw1100 kw1014 kw1015 dX10_doOrder_162 (c_X10_grapple hM hn hsn hm hmu) (by decide) (Nat.le_of_ble_eq_true rfl) (ci := 8) rfl (by assumption) ?_
      rintro _ h162 ⟨rfl, M162, e162, s162⟩
      refine R_iret (pc := 165) rfl rfl dX10_doOrder_165 ?_
      subst c_1
      exact ⟨rfl, M162, e162, s162⟩
    · skip
      refine R_swE (pc := 1) (v := 104) (off := 193) 194 dX10_doOrder_1 c_1 (by decide) (by decide) (by decide) (by decide) ?_
      refine R_aload_n0 (pc := 194) dX10_doOrder_194 ?_
      refine R_callV0 (pc := 195) (T := TX10) cal_X10_end kw1103 kw1034 kw1035 dX10_doOrder_195 (c_X10_end hM hn hsn hm hmu hwk) (by decide) (Nat.le_of_ble_eq_true rfl) (ci := 8) rfl (by assumption) ?_
      rintro _ h195 ⟨rfl, M195, e195, s195⟩
      refine R_iret (pc := 198) rfl rfl dX10_doOrder_198 ?_
      subst c_1
      exact ⟨rfl, M195, e195, s195⟩
    · skip
      refine R_swE (pc := 1) (v := 105) (off := 193) 194 dX10_doOrder_1 c_1 (by decide) (by decide) (by decide) (by decide) ?_
      refine R_aload_n0 (pc := 194) dX10_doOrder_194 ?_
      refine R_callV0 (pc := 195) (T := TX10) cal_X10_end kw1103 kw1034 kw1035 dX10_doOrder_195 (c_X10_end hM hn hsn hm hmu hwk) (by decide) (Nat.le_of_ble_eq_true rfl) (ci := 8) rfl (by assumption) ?_
      rintro _ h195 ⟨rfl, M195, e195, s195⟩
      refine R_iret (pc := 198) rfl rfl dX10_doOrder_198 ?_
      subst c_1
      exact ⟨rfl, M195, e195, s195⟩
    · skip
      refine R_swE (pc := 1) (v := 106) (off := 193) 194 dX10_doOrder_1 c_1 (by decide) (by decide) (by decide) (by decide) ?_
      refine R_aload_n0 (pc := 194) dX10_doOrder_194 ?_
      refine R_callV0 (pc := 195) (T := TX10) cal_X10_end kw1103 kw1034 kw1035 dX10_doOrder_195 (c_X10_end hM hn hsn hm hmu hwk) (by decide) (Nat.le_of_ble_eq_true rfl) (ci := 8) rfl (by assumption) ?_
      rintro _ h195 ⟨rfl, M195, e195, s195⟩
      refine R_iret (pc := 198) rfl rfl dX10_doOrder_198 ?_
      subst c_1
      exact ⟨rfl, M195, e195, s195⟩
    · skip
      refine R_swE (pc := 1) (v := 107) (off := 193) 194 dX10_doOrder_1 c_1 (by decide) (by decide) (by decide) (by decide) ?_
      refine R_aload_n0 (pc := 194) dX10_doOrder_194 ?_
      refine R_callV0 (pc := 195) (T := TX10) cal_X10_end kw1103 kw1034 kw1035 dX10_doOrder_195 (c_X10_end hM hn hsn hm hmu hwk) (by decide) (Nat.le_of_ble_eq_true rfl) (ci := 8) rfl (by assumption) ?_
      rintro _ h195 ⟨rfl, M195, e195, s195⟩
      refine R_iret (pc := 198) rfl rfl dX10_doOrder_198 ?_
      subst c_1
      exact ⟨rfl, M195, e195, s195⟩
    · skip
      refine R_swE (pc := 1) (v := 108) (off := 193) 194 dX10_doOrder_1 c_1 (by decide) (by decide) (by decide) (by decide) ?_
      refine R_aload_n0 (pc := 194) dX10_doOrder_194 ?_
      refine R_callV0 (pc := 195) (T := TX10) cal_X10_end kw1103 kw1034 kw1035 dX10_doOrder_195 (c_X10_end hM hn hsn hm hmu hwk) (by decide) (Nat.le_of_ble_eq_true rfl) (ci := 8) rfl (by assumption) ?_
      rintro _ h195 ⟨rfl, M195, e195, s195⟩
      refine R_iret (pc := 198) rfl rfl dX10_doOrder_198 ?_
      subst c_1
      exact ⟨rfl, M195, e195, s195⟩
    · skip
      refine R_swE (pc := 1) (v := 109) (off := 193) 194 dX10_doOrder_1 c_1 (by decide) (by decide) (by decide) (by decide) ?_
      refine R_aload_n0 (pc := 194) dX10_doOrder_194 ?_
      refine R_callV0 (pc := 195) (T := TX10) cal_X10_end kw1103 kw1034 kw1035 dX10_doOrder_195 (c_X10_end hM hn hsn hm hmu hwk) (by decide) (Nat.le_of_ble_eq_true rfl) (ci := 8) rfl (by assumption) ?_
      rintro _ h195 ⟨rfl, M195, e195, s195⟩
      refine R_iret (pc := 198) rfl rfl dX10_doOrder_198 ?_
      subst c_1
      exact ⟨rfl, M195, e195, s195⟩
    · skip
      refine R_swE (pc := 1) (v := 110) (off := 193) 194 dX10_doOrder_1 c_1 (by decide) (by decide) (by decide) (by decide) ?_
      refine R_aload_n0 (pc := 194) dX10_doOrder_194 ?_
      refine R_callV0 (pc := 195) (T := TX10) cal_X10_end kw1103 kw1034 kw1035 dX10_doOrder_195 (c_X10_end hM hn hsn hm hmu hwk) (by decide) (Nat.le_of_ble_eq_true rfl) (ci := 8) rfl (by assumption) ?_
      rintro _ h195 ⟨rfl, M195, e195, s195⟩
      refine R_iret (pc := 198) rfl rfl dX10_doOrder_198 ?_
      subst c_1
      exact ⟨rfl, M195, e195, s195⟩
    · skip
      refine R_swE (pc := 1) (v := 111) (off := 193) 194 dX10_doOrder_1 c_1 (by decide) (by decide) (by decide) (by decide) ?_
      refine R_aload_n0 (pc := 194) dX10_doOrder_194 ?_
      refine R_callV0 (pc := 195) (T := TX10) cal_X10_end kw1103 kw1034 kw1035 dX10_doOrder_195 (c_X10_end hM hn hsn hm hmu hwk) (by decide) (Nat.le_of_ble_eq_true rfl) (ci := 8) rfl (by assumption) ?_
      rintro _ h195 ⟨rfl, M195, e195, s195⟩
      refine R_iret (pc := 198) rfl rfl dX10_doOrder_198 ?_
      subst c_1
      exact ⟨rfl, M195, e195, s195⟩
    · skip
      refine R_swE (pc := 1) (v := 112) (off := 193) 194 dX10_doOrder_1 c_1 (by decide) (by decide) (by decide) (by decide) ?_
      refine R_aload_n0 (pc := 194) dX10_doOrder_194 ?_
      refine R_callV0 (pc := 195) (T := TX10) cal_X10_end kw1103 kw1034 kw1035 dX10_doOrder_195 (c_X10_end hM hn hsn hm hmu hwk) (by decide) (Nat.le_of_ble_eq_true rfl) (ci := 8) rfl (by assumption) ?_
      rintro _ h195 ⟨rfl, M195, e195, s195⟩
      refine R_iret (pc := 198) rfl rfl dX10_doOrder_198 ?_
      subst c_1
      exact ⟨rfl, M195, e195, s195⟩
    · skip
      refine R_swE (pc := 1) (v := 113) (off := 193) 194 dX10_doOrder_1 c_1 (by decide) (by decide) (by decide) (by decide) ?_
      refine R_aload_n0 (pc := 194) dX10_doOrder_194 ?_
      refine R_callV0 (pc := 195) (T := TX10) cal_X10_end kw1103 kw1034 kw1035 dX10_doOrder_195 (c_X10_end hM hn hsn hm hmu hwk) (by decide) (Nat.le_of_ble_eq_true rfl) (ci := 8) rfl (by assumption) ?_
      rintro _ h195 ⟨rfl, M195, e195, s195⟩
      refine R_iret (pc := 198) rfl rfl dX10_doOrder_198 ?_
      subst c_1
      exact ⟨rfl, M195, e195, s195⟩
    · skip
      refine R_swE (pc := 1) (v := 114) (off := 176) 177 dX10_doOrder_1 c_1 (by decide) (by decide) (by decide) (by decide) ?_
      refine R_aload_n0 (pc := 177) dX10_doOrder_177 ?_
      refine R_aload_n0 (pc := 178) dX10_doOrder_178 ?_
      refine G_X10_22 (pc := 179) dX10_doOrder_179 (by assumption) ?_
      refine R_iconst (pc := 182) (v := 0) dX10_doOrder_182 (by decide) ?_
      refine R_iald (pc := 183) dX10_doOrder_183 (by assumption) (in_n (i := 0) (by decide) (by decide)) ?_
      rw [show ((0 : Int32)).toNatClampNeg = 0 from rfl]
      refine R_aload_n0 (pc := 184) dX10_doOrder_184 ?_
      refine G_X10_22 (pc := 185) dX10_doOrder_185 (by assumption) ?_
      refine R_iconst (pc := 188) (v := 1) dX10_doOrder_188 (by decide) ?_
      refine R_iald (pc := 189) dX10_doOrder_189 (by assumption) (in_n (i := 1) (by decide) (by decide)) ?_
      rw [show ((1 : Int32)).toNatClampNeg = 1 from rfl]
      refine R_callV2 (pc := 190) (T := TX10) cal_X10_repair kw1102 kw1025 kw1026 dX10_doOrder_190 (c_X10_repair hM hn hsn hm hmu hcp) (by decide) (Nat.le_of_ble_eq_true rfl) (ci := 8) rfl (by assumption) ?_
      rintro _ h190 ⟨rfl, M190, e190, s190⟩
      refine R_iret (pc := 193) rfl rfl dX10_doOrder_193 ?_
      subst c_1
      exact ⟨rfl, M190, e190, s190⟩
    · skip
      refine R_swE (pc := 1) (v := 115) (off := 108) 109 dX10_doOrder_1 c_1 (by decide) (by decide) (by decide) (by decide) ?_
      refine R_aload_n0 (pc := 109) dX10_doOrder_109 ?_
      refine R_aload_n0 (pc := 110) dX10_doOrder_110 ?_
      refine G_X10_22 (pc := 111) dX10_doOrder_111 (by assumption) ?_
      refine R_iconst (pc := 114) (v := 0) dX10_doOrder_114 (by decide) ?_
      refine R_iald (pc := 115) dX10_doOrder_115 (by assumption) (in_n (i := 0) (by decide) (by decide)) ?_
      rw [show ((0 : Int32)).toNatClampNeg = 0 from rfl]
      refine R_aload_n0 (pc := 116) dX10_doOrder_116 ?_
      refine G_X10_22 (pc := 117) dX10_doOrder_117 (by assumption) ?_
      refine R_iconst (pc := 120) (v := 1) dX10_doOrder_120 (by decide) ?_
      refine R_iald (pc := 121) dX10_doOrder_121 (by assumption) (in_n (i := 1) (by decide) (by decide)) ?_
      rw [show ((1 : Int32)).toNatClampNeg = 1 from rfl]
      refine R_callV2 (pc := 122) (T := TX10) cal_X10_sail kw1098 kw951 kw952 dX10_doOrder_122 (c_X10_sail hM hn hsn hm hmu) (by decide) (Nat.le_of_ble_eq_true rfl) (ci := 8) rfl (by assumption) ?_
      rintro _ h122 ⟨rfl, M122, e122, s122⟩
      refine R_iret (pc := 125) rfl rfl dX10_doOrder_125 ?_
      subst c_1
      exact ⟨rfl, M122, e122, s122⟩
    · skip
      refine R_swE (pc := 1) (v := 116) (off := 91) 92 dX10_doOrder_1 c_1 (by decide) (by decide) (by decide) (by decide) ?_
      refine R_aload_n0 (pc := 92) dX10_doOrder_92 ?_
      refine R_aload_n0 (pc := 93) dX10_doOrder_93 ?_
      refine G_X10_22 (pc := 94) dX10_doOrder_94 (by assumption) ?_
      refine R_iconst (pc := 97) (v := 0) dX10_doOrder_97 (by decide) ?_
      refine R_iald (pc := 98) dX10_doOrder_98 (by assumption) (in_n (i := 0) (by decide) (by decide)) ?_
      rw [show ((0 : Int32)).toNatClampNeg = 0 from rfl]
      refine R_aload_n0 (pc := 99) dX10_doOrder_99 ?_
      refine G_X10_22 (pc := 100) dX10_doOrder_100 (by assumption) ?_
      refine R_iconst (pc := 103) (v := 1) dX10_doOrder_103 (by decide) ?_
      refine R_iald (pc := 104) dX10_doOrder_104 (by assumption) (in_n (i := 1) (by decide) (by decide)) ?_
      rw [show ((1 : Int32)).toNatClampNeg = 1 from rfl]
      refine R_callV2 (pc := 105) (T := TX10) cal_X10_tell kw1097 kw940 kw941 dX10_doOrder_105 (c_X10_tell hM hm hmu) (by decide) (Nat.le_of_ble_eq_true rfl) (ci := 8) rfl (by assumption) ?_
      rintro _ h105 ⟨rfl, M105, e105, s105⟩
      refine R_iret (pc := 108) rfl rfl dX10_doOrder_108 ?_
      subst c_1
      exact ⟨rfl, M105, e105, s105⟩
    · skip
      refine R_swE (pc := 1) (v := 117) (off := 193) 194 dX10_doOrder_1 c_1 (by decide) (by decide) (by decide) (by decide) ?_
      refine R_aload_n0 (pc := 194) dX10_doOrder_194 ?_
      refine R_callV0 (pc := 195) (T := TX10) cal_X10_end kw1103 kw1034 kw1035 dX10_doOrder_195 (c_X10_end hM hn hsn hm hmu hwk) (by decide) (Nat.le_of_ble_eq_true rfl) (ci := 8) rfl (by assumption) ?_
      rintro _ h195 ⟨rfl, M195, e195, s195⟩
      refine R_iret (pc := 198) rfl rfl dX10_doOrder_198 ?_
      subst c_1
      exact ⟨rfl, M195, e195, s195⟩
    · skip
      refine R_swE (pc := 1) (v := 118) (off := 193) 194 dX10_doOrder_1 c_1 (by decide) (by decide) (by decide) (by decide) ?_
      refine R_aload_n0 (pc := 194) dX10_doOrder_194 ?_
      refine R_callV0 (pc := 195) (T := TX10) cal_X10_end kw1103 kw1034 kw1035 dX10_doOrder_195 (c_X10_end hM hn hsn hm hmu hwk) (by decide) (Nat.le_of_ble_eq_true rfl) (ci := 8) rfl (by assumption) ?_
      rintro _ h195 ⟨rfl, M195, e195, s195⟩
      refine R_iret (pc := 198) rfl rfl dX10_doOrder_198 ?_
      subst c_1
      exact ⟨rfl, M195, e195, s195⟩
    · skip
      refine R_swE (pc := 1) (v := 119) (off := 193) 194 dX10_doOrder_1 c_1 (by decide) (by decide) (by decide) (by decide) ?_
      refine R_aload_n0 (pc := 194) dX10_doOrder_194 ?_
      refine R_callV0 (pc := 195) (T := TX10) cal_X10_end kw1103 kw1034 kw1035 dX10_doOrder_195 (c_X10_end hM hn hsn hm hmu hwk) (by decide) (Nat.le_of_ble_eq_true rfl) (ci := 8) rfl (by assumption) ?_
      rintro _ h195 ⟨rfl, M195, e195, s195⟩
      refine R_iret (pc := 198) rfl rfl dX10_doOrder_198 ?_
      subst c_1
      exact ⟨rfl, M195, e195, s195⟩
    · skip
      refine R_swE (pc := 1) (v := 120) (off := 165) 166 dX10_doOrder_1 c_1 (by decide) (by decide) (by decide) (by decide) ?_
      refine R_aload_n0 (pc := 166) dX10_doOrder_166 ?_
      refine R_aload_n0 (pc := 167) dX10_doOrder_167 ?_
      refine G_X10_22 (pc := 168) dX10_doOrder_168 (by assumption) ?_
      refine R_iconst (pc := 171) (v := 0) dX10_doOrder_171 (by decide) ?_
      refine R_iald (pc := 172) dX10_doOrder_172 (by assumption) (in_n (i := 0) (by decide) (by decide)) ?_
      rw [show ((0 : Int32)).toNatClampNeg = 0 from rfl]
      refine R_callV1 (pc := 173) (T := TX10) cal_X10_cut kw1101 kw1021 kw1022 dX10_doOrder_173 (c_X10_cut hM hn hsn hm hmu hwk) (by decide) (Nat.le_of_ble_eq_true rfl) (ci := 8) rfl (by assumption) ?_
      rintro _ h173 ⟨rfl, M173, e173, s173⟩
      refine R_iret (pc := 176) rfl rfl dX10_doOrder_176 ?_
      subst c_1
      exact ⟨rfl, M173, e173, s173⟩

theorem z_act_r {M : Mm} (h : ¬ M.1 6 = 0) (m : Nat) : z_act M m = M := if_neg h
abbrev Mr (s : Nat → Int32) : Mm := (fun _ => 1, s, fun _ => 0, fun _ => 0, fun _ => 0, fun _ => 0)
theorem Mr6 (s : Nat → Int32) : ¬ (Mr s).1 6 = 0 := fun z => absurd (show (1 : Int32) = 0 from z) (by decide)
theorem zw_tell_r (hM : ¬ M.1 6 = 0) {m : Nat} {c x : Int32} : zw_tell M m c x = ((zw_tell (Mr M.2.1) 0 c x).1, sM M (zw_tell (Mr M.2.1) 0 c x).2.2.1) := by
  unfold zw_tell 
  rw [z_act_r hM, z_act_r (Mr6 M.2.1)]
  repeat' split
  all_goals first | rfl | contradiction
theorem zw_sail_r (hM : ¬ M.1 6 = 0) {sn m : Nat} {c x : Int32} : zw_sail M sn m c x = ((zw_sail (Mr M.2.1) sn 0 c x).1, sM M (zw_sail (Mr M.2.1) sn 0 c x).2.2.1) := by
  unfold zw_sail zw_sail2
  rw [z_act_r hM, z_act_r (Mr6 M.2.1)]
  repeat' split
  all_goals first | rfl | contradiction
theorem zw_fire_r (hM : ¬ M.1 6 = 0) {sn m : Nat} {c x y : Int32} : zw_fire M sn m c x y = ((zw_fire (Mr M.2.1) sn 0 c x y).1, sM M (zw_fire (Mr M.2.1) sn 0 c x y).2.2.1) := by
  unfold zw_fire zw_fire2
  rw [z_act_r hM, z_act_r (Mr6 M.2.1)]
  repeat' split
  all_goals first | rfl | contradiction
theorem zw_grap_r (hM : ¬ M.1 6 = 0) {sn m : Nat} {c x : Int32} : zw_grap M sn m c x = ((zw_grap (Mr M.2.1) sn 0 c x).1, sM M (zw_grap (Mr M.2.1) sn 0 c x).2.2.1) := by
  unfold zw_grap zw_grap2
  rw [z_act_r hM, z_act_r (Mr6 M.2.1)]
  repeat' split
  all_goals first | rfl | contradiction
theorem zw_cut_r (hM : ¬ M.1 6 = 0) {sn m : Nat} {c : Int32} : zw_cut M sn m c = ((zw_cut (Mr M.2.1) sn 0 c).1, sM M (zw_cut (Mr M.2.1) sn 0 c).2.2.1) := by
  unfold zw_cut zw_cut2
  rw [z_act_r hM, z_act_r (Mr6 M.2.1)]
  repeat' split
  all_goals first | rfl | contradiction
theorem zw_rep_r (hM : ¬ M.1 6 = 0) {sn m : Nat} {c x : Int32} : zw_rep M sn m c x = ((zw_rep (Mr M.2.1) sn 0 c x).1, sM M (zw_rep (Mr M.2.1) sn 0 c x).2.2.1) := by
  unfold zw_rep zw_rep2
  rw [z_act_r hM, z_act_r (Mr6 M.2.1)]
  repeat' split
  all_goals first | rfl | contradiction
theorem zw_end_r (hM : ¬ M.1 6 = 0) {sn m : Nat} : zw_end M sn m = ((zw_end (Mr M.2.1) sn 0).1, sM M (zw_end (Mr M.2.1) sn 0).2.2.1) := by
  unfold zw_end 
  rw [z_act_r hM, z_act_r (Mr6 M.2.1)]
  repeat' split
  all_goals first | rfl | contradiction
theorem z_obey_r (hM : ¬ M.1 6 = 0) {sn m : Nat} {x : Int32} {nu : Nat → Int32} : z_obey M sn m x nu = ((z_obey (Mr M.2.1) sn 0 x nu).1, sM M (z_obey (Mr M.2.1) sn 0 x nu).2.2.1) := by
  unfold z_obey
  split
  · exact zw_tell_r hM
  · split
    · exact zw_sail_r hM
    · split
      · exact zw_fire_r hM
      · split
        · exact zw_grap_r hM
        · split
          · exact zw_cut_r hM
          · split
            · exact zw_rep_r hM
            · exact zw_end_r hM
/-- an order by the row alone -/
def zso (s : Nat → Int32) (x : Int32) (nu : Nat → Int32) : Int32 × (Nat → Int32) := ((z_obey (Mr s) (s 10).toNatClampNeg 0 x nu).1, (z_obey (Mr s) (s 10).toNatClampNeg 0 x nu).2.2.1)
def zrun (c : Nat → Int32) (m : Nat) : Nat → Nat → (Nat → Int32) → Nat → Nat × (Nat → Int32)
  | 0, _, s, d => (d, s)
  | k + 1, a, s, d => if (zso s (c a) (fun j => (pord c a zq).2.2 (j + 1))).1 < 0 then (d, (zso s (c a) (fun j => (pord c a zq).2.2 (j + 1))).2) else if (pord c a zq).2.1 + 1 ≤ m then zrun c m k ((pord c a zq).2.1 + 1) (zso s (c a) (fun j => (pord c a zq).2.2 (j + 1))).2 (d + 1) else (d + 1, (zso s (c a) (fun j => (pord c a zq).2.2 (j + 1))).2)
theorem zrun_s (c : Nat → Int32) (m k a : Nat) (s : Nat → Int32) (d : Nat) : zrun c m (k + 1) a s d = if (zso s (c a) (fun j => (pord c a zq).2.2 (j + 1))).1 < 0 then (d, (zso s (c a) (fun j => (pord c a zq).2.2 (j + 1))).2) else if (pord c a zq).2.1 + 1 ≤ m then zrun c m k ((pord c a zq).2.1 + 1) (zso s (c a) (fun j => (pord c a zq).2.2 (j + 1))).2 (d + 1) else (d + 1, (zso s (c a) (fun j => (pord c a zq).2.2 (j + 1))).2) := rfl
theorem z_obey_ext (M : Mm) (sn m : Nat) (x : Int32) (nu nv : Nat → Int32) (h : ∀ k, k < pcnt x → nu k = nv k) : z_obey M sn m x nu = z_obey M sn m x nv := by
  unfold z_obey
  by_cases h1 : x = 116
  · subst h1; rw [if_pos rfl, if_pos rfl, h 0 (by decide), h 1 (by decide)]
  · rw [if_neg h1, if_neg h1]
    by_cases h2 : x = 115
    · subst h2; rw [if_pos rfl, if_pos rfl, h 0 (by decide), h 1 (by decide)]
    · rw [if_neg h2, if_neg h2]
      by_cases h3 : x = 102
      · subst h3; rw [if_pos rfl, if_pos rfl, h 0 (by decide), h 1 (by decide), h 2 (by decide)]
      · rw [if_neg h3, if_neg h3]
        by_cases h4 : x = 103
        · subst h4; rw [if_pos rfl, if_pos rfl, h 0 (by decide), h 1 (by decide)]
        · rw [if_neg h4, if_neg h4]
          by_cases h5 : x = 120
          · subst h5; rw [if_pos rfl, if_pos rfl, h 0 (by decide)]
          · rw [if_neg h5, if_neg h5]
            by_cases h6 : x = 114
            · subst h6; rw [if_pos rfl, if_pos rfl, h 0 (by decide), h 1 (by decide)]
            · rw [if_neg h6, if_neg h6]
theorem Ms.tr {A B E : Mm} (h1 : Ms A B) (h2 : Ms B E) : Ms A E := ⟨h2.1.trans h1.1, h2.2.1.trans h1.2.1, h2.2.2.1.trans h1.2.2.1, h2.2.2.2.1.trans h1.2.2.2.1, h2.2.2.2.2.1.trans h1.2.2.2.2.1, h2.2.2.2.2.2.trans h1.2.2.2.2.2⟩
theorem Ms.oM (A : Mm) (b : Nat) (nu : Nat → Int32) : Ms A (oM A b nu) := ⟨rfl, rfl, rfl, rfl, rfl, rfl⟩
set_option maxHeartbeats 4000000 in
set_option maxRecDepth 100000 in
theorem L_X10_carry0 {M1 M2 : Mm} {s : Nat → Int32} {d : Nat} {a ft : Int32} {h1 : AH} (q1 : h1 = mput h u M2) (hMs : Ms (sM M1 s) M2) : RunM l D cA N0 m_X10_carryOut 6 0 0 (fun r h' => r = some (.int (nI d)) ∧ ∃ M5, h' = mput h u M5 ∧ Ms (fM (fM (sM M1 s) 6 0) 4 0) M5) h1 0 0 31 [some (.ref u), some (.int ft), some (.int (nI d)), some (.int a), some (.int 0)] [] := by
  have hM1 := mAt q1
  have mo1 := hM1.o
  have ms1 := hM1.s
  have mb1 := hM1.b
  have mt1 := hM1.t
  have mn1 := hM1.n
  have mc1 := hM1.c
  refine R_iload4 (pc := 31) dX10_carryOut_31 ?_
  refine R_if_eq (pc := 33) 107 dX10_carryOut_33 (by decide) (fun _ => ?_) (fun c0 => False.elim (by revert c0; decide))
  refine R_aload_n0 (pc := 107) dX10_carryOut_107 ?_
  refine R_iconst (pc := 108) (v := 0) dX10_carryOut_108 (by decide) ?_
  refine P_X10_33 (pc := 109) dX10_carryOut_109 (Or.inl rfl) (by assumption) (fun h1 e1 f1 => ?_)
  have q1 := mstep_o q1 e1
  have hM1 := mAt q1
  have mo1 := hM1.o
  have ms1 := hM1.s
  have mb1 := hM1.b
  have mt1 := hM1.t
  have mn1 := hM1.n
  have mc1 := hM1.c
  refine R_aload_n0 (pc := 112) dX10_carryOut_112 ?_
  refine R_iconst (pc := 113) (v := 0) dX10_carryOut_113 (by decide) ?_
  refine P_X10_162 (pc := 114) dX10_carryOut_114 (by assumption) (fun h2 e2 f2 => ?_)
  have q2 := mstep_o q1 e2
  have hM2 := mAt q2
  have mo2 := hM2.o
  have ms2 := hM2.s
  have mb2 := hM2.b
  have mt2 := hM2.t
  have mn2 := hM2.n
  have mc2 := hM2.c
  refine R_iload_n2 (pc := 117) dX10_carryOut_117 ?_
  refine R_iret (pc := 118) rfl rfl dX10_carryOut_118 ?_
  exact ⟨rfl, _, q2, ⟨hMs.1, hMs.2.1, hMs.2.2.1, hMs.2.2.2.1, rfl, rfl⟩⟩

theorem pf_sg {t : Nat → Int32} {m : Nat} (hm : m ≤ 100) : ∀ (K a : Nat) (q : Nat → Int32), a ≤ m → (pfault (sg t m) m K a q).1 = -1 ∨ 0 ≤ (pfault (sg t m) m K a q).1
  | 0, a, q, h => Or.inr (nI_pos' (show a < 2 ^ 31 by omega))
  | K + 1, a, q, h => by
    have hin := (pord_in t m a q h).1
    rw [pfault_s]
    split
    · split
      · exact Or.inl rfl
      · split
        · rename_i h1 h2 h3
          exact pf_sg hm K _ _ (by omega)
        · exact Or.inr (nI_pos' (by omega))
    · exact Or.inr (nI_pos' (by omega))
theorem pf_ok {t : Nat → Int32} {m K a : Nat} (hm : m ≤ 100) (ha : a ≤ m) (hf : (pfault (sg t m) m (K + 1) a zq).1 = -1) : zok (sg t m) m (pord (sg t m) a zq) ∧ ((pord (sg t m) a zq).2.1 + 1 ≤ m → (pfault (sg t m) m K ((pord (sg t m) a zq).2.1 + 1) zq).1 = -1) := by
  have hin := (pord_in t m a zq ha).1
  have hne : ∀ b : Nat, b ≤ m → ¬ nI b = -1 := fun b hb z => absurd (nI_pos' (show b < 2 ^ 31 by omega)) (by rw [z]; decide)
  rw [pfault_s] at hf
  by_cases h1 : (pord (sg t m) a zq).1 = true
  · rw [if_pos h1] at hf
    by_cases h2 : m ≤ (pord (sg t m) a zq).2.1
    · exact ⟨⟨h1, Or.inl (Nat.le_antisymm hin h2)⟩, fun z => by omega⟩
    · rw [if_neg h2] at hf
      by_cases h3 : sg t m (pord (sg t m) a zq).2.1 = 59
      · rw [if_pos h3, pfault_q _ _ _ _ _ zq] at hf
        exact ⟨⟨h1, Or.inr h3⟩, fun _ => hf⟩
      · rw [if_neg h3] at hf
        exact absurd hf (hne _ hin)
  · rw [if_neg h1] at hf
    exact absurd hf (hne _ hin)
theorem zso_of {s : Nat → Int32} {sn : Nat} (hsn : s 10 = nI sn) (hn : sn ≤ 8) {M : Mm} (e : M.2.1 = s) (h6 : ¬ M.1 6 = 0) {mu : Nat} {x : Int32} {nu nv : Nat → Int32} (h : ∀ k, k < pcnt x → nu k = nv k) : z_obey M sn mu x nu = ((zso s x nv).1, sM M (zso s x nv).2) := by
  subst e
  rw [z_obey_r h6, z_obey_ext _ _ _ _ _ _ h]
  unfold zso
  rw [hsn, nI_clamp (show sn < 2 ^ 31 by omega)]
theorem z_rec_3 (M : Mm) (m : Nat) : (z_rec M m).1 3 = nI (if m = 6 then 6 else m + 1) := by
  unfold z_rec
  by_cases h : m = 6
  · rw [if_pos h, if_pos h]; rfl
  · rw [if_neg h, if_neg h]; rfl
theorem z_rec_form (M : Mm) (m : Nat) : ∃ F2 b2, z_rec M m = (F2, M.2.1, b2, M.2.2.2) ∧ ∀ k, k ≠ 3 → F2 k = M.1 k := by
  have hB : ∀ (M : Mm) (m : Nat), ∃ F2 b2, z_recB M m = (F2, M.2.1, b2, M.2.2.2) ∧ ∀ k, k ≠ 3 → F2 k = M.1 k := fun M m => ⟨_, _, rfl, fun k hk => if_neg hk⟩
  unfold z_rec
  split
  · obtain ⟨F2, b2, e, hk⟩ := hB (fM (bM M (z_sh M.2.2.1 2725)) 3 (nI 5)) 5
    exact ⟨F2, b2, e, fun k h => (hk k h).trans (if_neg h)⟩
  · exact hB M m
theorem Ms.rec {M M2 : Mm} (h : Ms M M2) (m : Nat) : Ms (z_rec M m) (z_rec M2 m) := by
  obtain ⟨F, s, b, t, nu, co⟩ := M
  obtain ⟨F2, s2, b2, t2, nu2, co2⟩ := M2
  obtain ⟨e1, e2, e3, e4, e5, e6⟩ := h
  simp only at e1 e2 e3 e4 e5 e6
  subst e1 e2 e3
  unfold z_rec
  split <;> exact ⟨rfl, rfl, rfl, rfl, e5, e6⟩
set_option maxHeartbeats 4000000 in
set_option maxRecDepth 100000 in
theorem L_X10_carry {M1 : Mm} {m : Nat} (hm : m ≤ 100) (hml : M1.1 4 = nI m) {mu : Nat} (hmu6 : mu ≤ 6) (hmu : M1.1 3 = nI mu) (hr : M1.1 6 = 1) {I : (Nat → Int32) → Prop} (hIa : ∀ s, I s → ∃ sn, sn ≤ 8 ∧ s 10 = nI sn ∧ Wok s ∧ ∀ e, e < sn → ∃ c, c < 2 ∧ gx s e 0 = nI c) (hIo : ∀ s x nu, I s → I (zso s x nu).2) {ft : Int32} : ∀ (K a : Nat) (s : Nat → Int32) (d : Nat) (M2 : Mm) (h1 : AH), a ≤ m → m < a + K → (pfault (sg M1.2.2.2.1 m) m K a zq).1 = -1 → I s → h1 = mput h u M2 → Ms (sM M1 s) M2 → RunM l D cA N0 m_X10_carryOut 6 0 0 (fun r h' => r = some (.int (nI (zrun (sg M1.2.2.2.1 m) m K a s d).1)) ∧ ∃ M5, h' = mput h u M5 ∧ Ms (fM (fM (sM M1 (zrun (sg M1.2.2.2.1 m) m K a s d).2) 6 0) 4 0) M5) h1 0 0 31 [some (.ref u), some (.int ft), some (.int (nI d)), some (.int (nI a)), some (.int 1)] [] := by
  intro K
  induction K with
  | zero =>
    intro a s d M2 h1 ha hK
    omega
  | succ K ih =>
    intro a s d M2 h1 ha hK hf hI q1 hMs
    obtain ⟨hok, hnx⟩ := pf_ok hm ha hf
    obtain ⟨hin, hgo⟩ := pord_in M1.2.2.2.1 m a zq ha
    have hlt := (hgo hok.1).1
    obtain ⟨sn, hn, hsn, hwk, hcp⟩ := hIa s hI
    obtain ⟨F2, s2, b2, t2, nu0, co⟩ := M2
    obtain ⟨e1, e2, e3, e4, e5, e6⟩ := hMs
    simp only [sM] at e1 e2 e3 e4 e5 e6
    have e1 := e1.symm
    subst e1 e2 e3
    have h6 : ¬ F2 6 = 0 := fun z => absurd ((e6.trans hr).symm.trans z) (by decide)
    have hM1 := mAt q1
    have mo1 := hM1.o
    have ms1 := hM1.s
    have mb1 := hM1.b
    have mt1 := hM1.t
    have mn1 := hM1.n
    have mc1 := hM1.c
    refine R_iload4 (pc := 31) dX10_carryOut_31 ?_
    refine R_if_eq (pc := 33) 107 dX10_carryOut_33 (by decide) (fun c0 => False.elim (by revert c0; decide)) (fun _ => ?_)
    refine R_aload_n0 (pc := 36) dX10_carryOut_36 ?_
    refine R_iload_n3 (pc := 37) dX10_carryOut_37 ?_
    refine P_X10_165 (pc := 38) dX10_carryOut_38 (by assumption) (fun h1 e1 f1 => ?_)
    have q1 := mstep_o q1 e1
    have hM1 := mAt q1
    have mo1 := hM1.o
    have ms1 := hM1.s
    have mb1 := hM1.b
    have mt1 := hM1.t
    have mn1 := hM1.n
    have mc1 := hM1.c
    refine R_aload_n0 (pc := 41) dX10_carryOut_41 ?_
    have q38 : _ = mput h u (oM (F2, s, M1.2.2.1, M1.2.2.2.1, nu0, co) a nu0) := q1
    have hM38 := mAt q38
    have mo38 := hM38.o
    have ms38 := hM38.s
    have mb38 := hM38.b
    have mt38 := hM38.t
    have mn38 := hM38.n
    have mc38 := hM38.c
    refine R_callV0 (pc := 42) (T := TX10) cal_X10_order kw1070 kw1072 kw47 dX10_carryOut_42 (show Spec l D cA N0 m_X10_order 2 0 0 [.ref u] _ (fun x h' => x = some (.int (bI (zok (sg M1.2.2.2.1 m) m (pord (sg M1.2.2.2.1 m) a zq)))) ∧ ∃ nu2, h' = mput h u (oM (F2, s, M1.2.2.1, M1.2.2.2.1, nu0, co) (pord (sg M1.2.2.2.1 m) a zq).2.1 nu2) ∧ ((pord (sg M1.2.2.2.1 m) a zq).1 = true → ∀ k, k < pcnt ((sg M1.2.2.2.1 m) a) → nu2 k = (pord (sg M1.2.2.2.1 m) a zq).2.2 (k + 1))) from c_X10_order (M := (F2, s, M1.2.2.1, M1.2.2.2.1, nu0, co)) hm (e5.trans hml) (a := a) (by omega) q38) (by decide) (Nat.le_of_ble_eq_true rfl) (ci := 8) rfl (by assumption) ?_
    rintro _ h42 ⟨rfl, nu2, q42, hnu2⟩
    have hM42 := mAt q42
    have mo42 := hM42.o
    have ms42 := hM42.s
    have mb42 := hM42.b
    have mt42 := hM42.t
    have mn42 := hM42.n
    have mc42 := hM42.c
    have hz : z_obey (oM (F2, s, M1.2.2.1, M1.2.2.2.1, nu0, co) (pord (sg M1.2.2.2.1 m) a zq).2.1 nu2) sn mu ((sg M1.2.2.2.1 m) a) nu2 = ((zso s ((sg M1.2.2.2.1 m) a) (fun j => (pord (sg M1.2.2.2.1 m) a zq).2.2 (j + 1))).1, sM (oM (F2, s, M1.2.2.1, M1.2.2.2.1, nu0, co) (pord (sg M1.2.2.2.1 m) a zq).2.1 nu2) (zso s ((sg M1.2.2.2.1 m) a) (fun j => (pord (sg M1.2.2.2.1 m) a zq).2.2 (j + 1))).2) := zso_of hsn hn rfl h6 (hnu2 hok.1)
    refine R_pop (pc := 45) dX10_carryOut_45 rfl ?_
    refine R_aload_n0 (pc := 46) dX10_carryOut_46 ?_
    refine G_X10_165 (pc := 47) dX10_carryOut_47 (by assumption) ?_
    rw [show (oM (F2, s, M1.2.2.1, M1.2.2.2.1, nu0, co) (pord (sg M1.2.2.2.1 m) a zq).2.1 nu2).1 10 = nI (pord (sg M1.2.2.2.1 m) a zq).2.1 from rfl]
    refine R_iconst (pc := 50) (v := 1) dX10_carryOut_50 (by decide) ?_
    refine R_iadd (pc := 51) dX10_carryOut_51 ?_
    rw [nI_1]
    refine R_istore_n3 (pc := 52) dX10_carryOut_52 rfl (by decide) ?_
    refine R_aload_n0 (pc := 53) dX10_carryOut_53 ?_
    refine R_aload_n0 (pc := 54) dX10_carryOut_54 ?_
    refine R_callV0 (pc := 55) (T := TX10) cal_X10_letterAtBegin kw1087 kw1089 kw50 dX10_carryOut_55 (show Spec l D cA N0 m_X10_letterAtBegin 1 0 0 [.ref u] _ (fun r h' => r = some (.int ((sg M1.2.2.2.1 m) a)) ∧ h' = h42) from c_X10_letterAtBegin (M := (F2, s, M1.2.2.1, M1.2.2.2.1, nu0, co)) hm (e5.trans hml) (a := a) hin (hgo hok.1).1 q42 (hgo hok.1).2.1 (hgo hok.1).2.2) (by decide) (Nat.le_of_ble_eq_true rfl) (ci := 8) rfl (by assumption) ?_
    rintro _ _ ⟨rfl, rfl⟩
    refine R_callV1 (pc := 58) (T := TX10) cal_X10_doOrder kw1093 kw1095 kw51 dX10_carryOut_58 (c_X10_doOrder (M := (oM (F2, s, M1.2.2.1, M1.2.2.2.1, nu0, co) (pord (sg M1.2.2.2.1 m) a zq).2.1 nu2)) hM42 hn hsn hmu6 (e4.trans hmu) hwk hcp) (by decide) (Nat.le_of_ble_eq_true rfl) (ci := 8) rfl (by assumption) ?_
    rintro _ h58 ⟨rfl, M58, e58, s58⟩
    rw [show z_obey (oM (F2, s, M1.2.2.1, M1.2.2.2.1, nu0, co) (pord (sg M1.2.2.2.1 m) a zq).2.1 nu2) sn mu ((sg M1.2.2.2.1 m) a) (oM (F2, s, M1.2.2.1, M1.2.2.2.1, nu0, co) (pord (sg M1.2.2.2.1 m) a zq).2.1 nu2).2.2.2.2.1 = ((zso s ((sg M1.2.2.2.1 m) a) (fun j => (pord (sg M1.2.2.2.1 m) a zq).2.2 (j + 1))).1, sM (oM (F2, s, M1.2.2.1, M1.2.2.2.1, nu0, co) (pord (sg M1.2.2.2.1 m) a zq).2.1 nu2) (zso s ((sg M1.2.2.2.1 m) a) (fun j => (pord (sg M1.2.2.2.1 m) a zq).2.2 (j + 1))).2) from hz] at s58
    rw [show z_obey (oM (F2, s, M1.2.2.1, M1.2.2.2.1, nu0, co) (pord (sg M1.2.2.2.1 m) a zq).2.1 nu2) sn mu ((sg M1.2.2.2.1 m) a) (oM (F2, s, M1.2.2.1, M1.2.2.2.1, nu0, co) (pord (sg M1.2.2.2.1 m) a zq).2.1 nu2).2.2.2.2.1 = ((zso s ((sg M1.2.2.2.1 m) a) (fun j => (pord (sg M1.2.2.2.1 m) a zq).2.2 (j + 1))).1, sM (oM (F2, s, M1.2.2.1, M1.2.2.2.1, nu0, co) (pord (sg M1.2.2.2.1 m) a zq).2.1 nu2) (zso s ((sg M1.2.2.2.1 m) a) (fun j => (pord (sg M1.2.2.2.1 m) a zq).2.2 (j + 1))).2) from hz]
    have q58 := mstep_M q42 e58
    have hM58 := mAt q58
    have mo58 := hM58.o
    have ms58 := hM58.s
    have mb58 := hM58.b
    have mt58 := hM58.t
    have mn58 := hM58.n
    have mc58 := hM58.c
    have hMs2 : Ms (sM M1 (zso s ((sg M1.2.2.2.1 m) a) (fun j => (pord (sg M1.2.2.2.1 m) a zq).2.2 (j + 1))).2) M58 := ⟨s58.1, s58.2.1, s58.2.2.1, s58.2.2.2.1.trans e4, s58.2.2.2.2.1.trans e5, s58.2.2.2.2.2.trans e6⟩
    have hml58 : M58.1 4 = nI m := s58.2.2.2.2.1.trans (e5.trans hml)
    refine R_if_lt (pc := 61) 68 dX10_carryOut_61 (by decide) (fun c_61 => ?_) (fun c_61 => ?_)
    · skip
      have d_61 := Int32.not_le.mpr c_61
      have c_61 : (zso s ((sg M1.2.2.2.1 m) a) (fun j => (pord (sg M1.2.2.2.1 m) a zq).2.2 (j + 1))).1 < 0 := c_61
      refine R_iconst (pc := 68) (v := 0) dX10_carryOut_68 (by decide) ?_
      refine R_istore4 (pc := 69) dX10_carryOut_69 rfl (by decide) ?_
      refine R_iload_n2 (pc := 71) dX10_carryOut_71 ?_
      refine R_iload4 (pc := 72) dX10_carryOut_72 ?_
      refine R_if_eq (pc := 74) 81 dX10_carryOut_74 (by decide) (fun _ => ?_) (fun c0 => False.elim (by revert c0; decide))
      refine R_iconst (pc := 81) (v := 0) dX10_carryOut_81 (by decide) ?_
      refine R_iadd (pc := 82) dX10_carryOut_82 ?_
      first | rw [nI_1] | rw [Int32.add_zero]
      refine R_istore_n2 (pc := 83) dX10_carryOut_83 rfl (by decide) ?_
      refine R_iload4 (pc := 84) dX10_carryOut_84 ?_
      refine R_if_eq (pc := 86) 101 dX10_carryOut_86 (by decide) (fun _ => ?_) (fun c0 => False.elim (by revert c0; decide))
      refine R_iconst (pc := 101) (v := 0) dX10_carryOut_101 (by decide) ?_
      refine R_istore4 (pc := 102) dX10_carryOut_102 rfl (by decide) ?_
      refine R_goto (pc := 104) 31 dX10_carryOut_104 (by decide) ?_
      rw [zrun_s, if_pos c_61]
      exact L_X10_carry0 q58 hMs2
    · skip
      have d_61 := Int32.not_lt.mp c_61
      have c_61 : ¬ (zso s ((sg M1.2.2.2.1 m) a) (fun j => (pord (sg M1.2.2.2.1 m) a zq).2.2 (j + 1))).1 < 0 := c_61
      refine R_iconst (pc := 64) (v := 1) dX10_carryOut_64 (by decide) ?_
      refine R_goto (pc := 65) 69 dX10_carryOut_65 (by decide) ?_
      refine R_istore4 (pc := 69) dX10_carryOut_69 rfl (by decide) ?_
      refine R_iload_n2 (pc := 71) dX10_carryOut_71 ?_
      refine R_iload4 (pc := 72) dX10_carryOut_72 ?_
      refine R_if_eq (pc := 74) 81 dX10_carryOut_74 (by decide) (fun c0 => False.elim (by revert c0; decide)) (fun _ => ?_)
      refine R_iconst (pc := 77) (v := 1) dX10_carryOut_77 (by decide) ?_
      refine R_goto (pc := 78) 82 dX10_carryOut_78 (by decide) ?_
      refine R_iadd (pc := 82) dX10_carryOut_82 ?_
      first | rw [nI_1] | rw [Int32.add_zero]
      refine R_istore_n2 (pc := 83) dX10_carryOut_83 rfl (by decide) ?_
      refine R_iload4 (pc := 84) dX10_carryOut_84 ?_
      refine R_if_eq (pc := 86) 101 dX10_carryOut_86 (by decide) (fun c0 => False.elim (by revert c0; decide)) (fun _ => ?_)
      refine R_iload_n3 (pc := 89) dX10_carryOut_89 ?_
      refine R_aload_n0 (pc := 90) dX10_carryOut_90 ?_
      refine G_X10_162 (pc := 91) dX10_carryOut_91 (by assumption) ?_
      rw [hml58]
      refine R_icmp_gt (pc := 94) 101 dX10_carryOut_94 (by decide) (fun c_94 => ?_) (fun c_94 => ?_)
      · skip
        have d_94 := Int32.not_le.mpr c_94
        refine R_iconst (pc := 101) (v := 0) dX10_carryOut_101 (by decide) ?_
        refine R_istore4 (pc := 102) dX10_carryOut_102 rfl (by decide) ?_
        refine R_goto (pc := 104) 31 dX10_carryOut_104 (by decide) ?_
        have hgt : ¬ (pord (sg M1.2.2.2.1 m) a zq).2.1 + 1 ≤ m := fun z => Int32.not_le.mpr c_94 ((nI_leI (by omega) (by omega)).mpr z)
        rw [zrun_s, if_neg c_61, if_neg hgt]
        exact L_X10_carry0 q58 hMs2
      · skip
        have d_94 := Int32.not_lt.mp c_94
        refine R_iconst (pc := 97) (v := 1) dX10_carryOut_97 (by decide) ?_
        refine R_goto (pc := 98) 102 dX10_carryOut_98 (by decide) ?_
        refine R_istore4 (pc := 102) dX10_carryOut_102 rfl (by decide) ?_
        refine R_goto (pc := 104) 31 dX10_carryOut_104 (by decide) ?_
        have hle : (pord (sg M1.2.2.2.1 m) a zq).2.1 + 1 ≤ m := (nI_leI (by omega) (by omega)).mp (Int32.not_lt.mp c_94)
        rw [zrun_s, if_neg c_61, if_pos hle]
        exact ih ((pord (sg M1.2.2.2.1 m) a zq).2.1 + 1) (zso s ((sg M1.2.2.2.1 m) a) (fun j => (pord (sg M1.2.2.2.1 m) a zq).2.2 (j + 1))).2 (d + 1) M58 _ hle (by omega) (hnx hle) (hIo _ _ _ hI) q58 hMs2

def zcarry (M : Mm) (mu m : Nat) : Int32 × Mm := if (pfault (sg M.2.2.2.1 m) m 101 0 zq).1 = -1 then (nI (zrun (sg M.2.2.2.1 m) m 101 0 M.2.1 0).1, fM (fM (sM (z_rec M mu) (zrun (sg M.2.2.2.1 m) m 101 0 M.2.1 0).2) 6 0) 4 0) else (-1000 - (pfault (sg M.2.2.2.1 m) m 101 0 zq).1, M)
set_option maxHeartbeats 4000000 in
set_option maxRecDepth 100000 in
theorem c_X10_carryOut (hM : MAt h u M) {m : Nat} (hm : m ≤ 100) (hml : M.1 4 = nI m) {mu : Nat} (hmu6 : mu ≤ 6) (hmu : M.1 3 = nI mu) (hrn : M.1 6 = 0) {I : (Nat → Int32) → Prop} (hIa : ∀ s, I s → ∃ sn, sn ≤ 8 ∧ s 10 = nI sn ∧ Wok s ∧ ∀ e, e < sn → ∃ c, c < 2 ∧ gx s e 0 = nI c) (hIo : ∀ s x nu, I s → I (zso s x nu).2) (hI : I M.2.1) : Spec l D cA N0 m_X10_carryOut 6 0 0 [.ref u] h (fun r h' => r = some (.int (zcarry M mu m).1) ∧ ∃ M2, h' = mput h u M2 ∧ Ms (zcarry M mu m).2 M2) := by
  refine Spec.of (L := [some (.ref u), none, none, none, none]) (by decide) rfl (Nat.le_of_ble_eq_true rfl) ?_
  have q0 : h = mput h u M := (mput_self hM).symm
  have mo0 := hM.o
  have ms0 := hM.s
  have mb0 := hM.b
  have mt0 := hM.t
  have mn0 := hM.n
  have mc0 := hM.c
  refine R_aload_n0 (pc := 0) dX10_carryOut_0 ?_
  refine R_callV0 (pc := 1) (T := TX10) cal_X10_faultAt kw1066 kw1068 kw46 dX10_carryOut_1 (c_X10_faultAt hM hm hml) (by decide) (Nat.le_of_ble_eq_true rfl) (ci := 8) rfl (by assumption) ?_
  rintro _ h4 ⟨rfl, b4, nu4, e4⟩
  have q4 : h4 = mput h u (oM M b4 nu4) := e4
  have hM4 := mAt q4
  have mo4 := hM4.o
  have ms4 := hM4.s
  have mb4 := hM4.b
  have mt4 := hM4.t
  have mn4 := hM4.n
  have mc4 := hM4.c
  refine R_istore_n1 (pc := 4) dX10_carryOut_4 rfl (by decide) ?_
  refine R_iload_n1 (pc := 5) dX10_carryOut_5 ?_
  refine R_if_lt (pc := 6) 15 dX10_carryOut_6 (by decide) (fun c_6 => ?_) (fun c_6 => ?_)
  · skip
    have d_6 := Int32.not_le.mpr c_6
    have hf : (pfault (sg M.2.2.2.1 m) m 101 0 zq).1 = -1 := (pf_sg hm 101 0 zq (Nat.zero_le m)).resolve_right (fun z => Int32.not_le.mpr c_6 z)
    refine R_aload_n0 (pc := 15) dX10_carryOut_15 ?_
    refine R_callV0 (pc := 16) (T := TX10) cal_X10_record kw907 kw909 kw27 dX10_carryOut_16 (c_X10_record (M := oM M b4 nu4) hM4 hmu6 hmu) (by decide) (Nat.le_of_ble_eq_true rfl) (ci := 8) rfl (by assumption) ?_
    rintro _ h16 ⟨rfl, e16⟩
    have q16 := mstep_M q4 e16
    have hM16 := mAt q16
    have mo16 := hM16.o
    have ms16 := hM16.s
    have mb16 := hM16.b
    have mt16 := hM16.t
    have mn16 := hM16.n
    have mc16 := hM16.c
    refine R_aload_n0 (pc := 19) dX10_carryOut_19 ?_
    refine R_iconst (pc := 20) (v := 1) dX10_carryOut_20 (by decide) ?_
    refine P_X10_33 (pc := 21) dX10_carryOut_21 (Or.inr rfl) (by assumption) (fun h1 e1 f1 => ?_)
    have q1 := mstep_o q16 e1
    have hM1 := mAt q1
    have mo1 := hM1.o
    have ms1 := hM1.s
    have mb1 := hM1.b
    have mt1 := hM1.t
    have mn1 := hM1.n
    have mc1 := hM1.c
    refine R_iconst (pc := 24) (v := 0) dX10_carryOut_24 (by decide) ?_
    refine R_istore_n2 (pc := 25) dX10_carryOut_25 rfl (by decide) ?_
    refine R_iconst (pc := 26) (v := 0) dX10_carryOut_26 (by decide) ?_
    refine R_istore_n3 (pc := 27) dX10_carryOut_27 rfl (by decide) ?_
    refine R_iconst (pc := 28) (v := 1) dX10_carryOut_28 (by decide) ?_
    refine R_istore4 (pc := 29) dX10_carryOut_29 rfl (by decide) ?_
    obtain ⟨F2, b2, hre, hF2⟩ := z_rec_form M mu
    have hMr := ((Ms.oM M b4 nu4).rec mu)
    have h3 := z_rec_3 M mu
    rw [zcarry, if_pos hf, hre]
    rw [hre] at hMr h3
    refine L_X10_carry (M1 := fM (F2, M.2.1, b2, M.2.2.2) 6 1) (mu := if mu = 6 then 6 else mu + 1) hm ((hF2 4 (by decide)).trans hml) (by split <;> omega) h3 rfl hIa hIo 101 0 M.2.1 0 _ _ (Nat.zero_le m) (by omega) hf hI q1 ?_
    exact ⟨hMr.1, hMr.2.1, hMr.2.2.1, hMr.2.2.2.1, hMr.2.2.2.2.1, rfl⟩
  · skip
    have d_6 := Int32.not_lt.mp c_6
    have hf : ¬ (pfault (sg M.2.2.2.1 m) m 101 0 zq).1 = -1 := fun z => c_6 (by rw [z]; decide)
    refine R_sipush (pc := 9) (v := (-1000)) dX10_carryOut_9 (by decide) ?_
    refine R_iload_n1 (pc := 12) dX10_carryOut_12 ?_
    refine R_isub (pc := 13) dX10_carryOut_13 ?_
    refine R_iret (pc := 14) rfl rfl dX10_carryOut_14 ?_
    exact ⟨by rw [zcarry, if_neg hf], _, q4, by rw [zcarry, if_neg hf]; exact Ms.oM _ _ _⟩

end LV39
