/-! THE REFERENCE: what reads the text -/
theorem need_pnof (x : Int32) : z_need x = pnof x := by
  unfold z_need pnof
  by_cases h1 : x = 101
  · rw [if_pos h1, if_pos h1]
  · rw [if_neg h1, if_neg h1]
    by_cases h2 : x = 120
    · rw [if_pos h2, if_pos h2]
    · rw [if_neg h2, if_neg h2]
      by_cases h3 : x = 102
      · subst h3; decide
      · rw [if_neg h3, if_neg h3]
        by_cases h4 : x = 103 ∨ x = 114 ∨ x = 115 ∨ x = 116
        · rw [if_pos h4, if_pos (by rcases h4 with z | z | z | z <;> simp [z])]
        · rw [if_neg h4, if_neg (by
            rintro (z | z | z | z)
            · exact h4 (Or.inr (Or.inr (Or.inr z)))
            · exact h4 (Or.inr (Or.inr (Or.inl z)))
            · exact h4 (Or.inl z)
            · exact h4 (Or.inr (Or.inl z)))]
theorem let_need (t : Nat → Int32) (m a : Nat) : z_need (z_let t m a) = pnof (sg t m a) := by
  rw [need_pnof]
  unfold z_let sg
  by_cases h : a < m
  · rw [if_pos h, if_pos h]
  · rw [if_neg h, if_neg h]; decide
theorem let_dig {t : Nat → Int32} {m a : Nat} : (48 ≤ z_let t m a ∧ z_let t m a ≤ 57) ↔ pdig (sg t m a) = true := by
  unfold pdig
  rw [decide_eq_true_eq]
  unfold z_let sg
  by_cases h : a < m
  · rw [if_pos h, if_pos h]
  · rw [if_neg h, if_neg h]; decide
theorem let_val {t : Nat → Int32} {m a : Nat} (h : pdig (sg t m a) = true) : z_let t m a = sg t m a := by
  unfold z_let
  by_cases h1 : a < m
  · rw [if_pos h1, sg, if_pos h1]
  · rw [sg, if_neg h1] at h
    exact absurd h (by decide)
theorem let_eq {t : Nat → Int32} {m a : Nat} {v : Int32} (h0 : ¬ (0 : Int32) = v) (h1 : ¬ (-1 : Int32) = v) : z_let t m a = v ↔ sg t m a = v := by
  unfold z_let sg
  by_cases h : a < m
  · rw [if_pos h, if_pos h]
  · rw [if_neg h, if_neg h]; exact ⟨fun z => absurd z h0, fun z => absurd z h1⟩
theorem dig_val {x : Int32} (h : pdig x = true) : ∃ e, e < 10 ∧ x = nI (48 + e) := by
  unfold pdig at h
  rw [decide_eq_true_eq] at h
  obtain ⟨k, hk, e⟩ := ge0 (n := 57) (Int32.le_trans (by decide) h.1) (by decide) h.2
  have h48 : 48 ≤ k := by
    have := h.1
    rw [e] at this
    exact (nI_leI (a := 48) (by decide) (by omega)).mp this
  exact ⟨k - 48, by omega, by rw [e, show 48 + (k - 48) = k by omega]⟩
theorem sub48 (x : Nat) : nI (x + 48) - 48 = nI x := by
  rw [← nI_add x 48, show nI 48 = (48 : Int32) from rfl]; exact Int32.add_sub_cancel _ _
theorem dig_s1 (w e : Nat) : (10 : Int32) * nI w + nI (48 + e) - 48 = nI (10 * w + e) := by
  rw [show (10 : Int32) = nI 10 from rfl, pk_mul, nI_add, show 10 * w + (48 + e) = 10 * w + e + 48 by omega, sub48]
theorem dig_s2 (w e : Nat) : nI w * 10 + nI (48 + e) - 48 = nI (10 * w + e) := by
  rw [Int32.mul_comm, dig_s1]
theorem pnum_n {c : Nat → Int32} {a : Nat} (h : ¬ pdig (c a) = true) (k : Nat) (v : Int32) : pnum c k v a = (v, a) := by
  cases k with
  | zero => rfl
  | succ k => rw [pnum_s, if_neg h]
theorem pnum_d {c : Nat → Int32} {a w e : Nat} (h : pdig (c a) = true) (he : c a = nI (48 + e)) (k : Nat) : pnum c (k + 1) (nI w) a = pnum c k (nI (10 * w + e)) (a + 1) := by
  rw [pnum_s, if_pos h, he, dig_s2]
def oM (M : Mm) (a : Nat) (nu : Nat → Int32) : Mm := nM (fM M 10 (nI a)) nu
theorem oM_f (M : Mm) (a b : Nat) (nu : Nat → Int32) : fM (oM M a nu) 10 (nI b) = oM M b nu := by
  show (upd (upd M.1 10 (nI a)) 10 (nI b), M.2.1, M.2.2.1, M.2.2.2.1, nu, M.2.2.2.2.2) = _
  rw [upd_upd]; rfl
theorem oM_id (M : Mm) {a : Nat} (h : M.1 10 = nI a) : oM M a M.2.2.2.2.1 = M := by
  show (upd M.1 10 (nI a), M.2) = M
  rw [← h, upd_id]
section LV37
variable {l : Launch} {D : va_G} {cA : Nat → ClassId} {N0 : Nat} {h : AH} {u : Nat} {M : Mm}
set_option maxHeartbeats 4000000 in
set_option maxRecDepth 100000 in
theorem L_X10_number {m : Nat} (hm : m ≤ 100) (hml : M.1 4 = nI m) {p : Nat} (hp : p < 3) {nu : Nat → Int32} : ∀ (k w n a : Nat) (h1 : AH), n + k = 6 → 1 ≤ n → 0 < w → w < 10 ^ n → a + k < 2 ^ 20 → h1 = mput h u (oM M a nu) → RunM l D cA N0 m_X10_number 1 0 0 (fun r h' => r = some (.int 1) ∧ h' = mput h u (oM M (pnum (sg M.2.2.2.1 m) k (nI w) a).2 (upd nu p (pnum (sg M.2.2.2.1 m) k (nI w) a).1))) h1 0 0 4 [some (.ref u), some (.int (nI p)), some (.int (nI w)), some (.int (nI n))] [] := by
  intro k
  induction k with
  | zero =>
    intro w n a h1 hk hn1 hw0 hw ha q1
    have hM1 := mAt q1
    have mo1 := hM1.o
    have ms1 := hM1.s
    have mb1 := hM1.b
    have mt1 := hM1.t
    have mn1 := hM1.n
    have mc1 := hM1.c
    have hw9 : w < 2 ^ 31 := Nat.lt_of_lt_of_le hw (Nat.le_trans (Nat.pow_le_pow_right (by decide) (show n ≤ 6 by omega)) (by decide))
    refine R_aload_n0 (pc := 4) dX10_number_4 ?_
    refine R_aload_n0 (pc := 5) dX10_number_5 ?_
    refine G_X10_165 (pc := 6) dX10_number_6 (by assumption) ?_
    rw [show (oM M a nu).1 10 = nI a from rfl]
    refine R_callV1 (pc := 9) (T := TX10) cal_X10_letterAt kw1074 kw1076 kw48 dX10_number_9 (c_X10_letterAt (a := a) hM1 hm (show (oM M (a) _).1 4 = nI m from hml) (by omega)) (by decide) (Nat.le_of_ble_eq_true rfl) (ci := 8) rfl (by assumption) ?_
    rintro _ _ ⟨rfl, rfl⟩
    refine R_i2l (pc := 12) dX10_number_12 ?_
    refine R_ldc2 (pc := 13) dX10_number_13 kw1085 ?_
    refine R_ldc2 (pc := 16) dX10_number_16 kw1086 ?_
    refine R_callS3 (pc := 19) cal_X10_in kw892 kw893 dX10_number_19 (c_X10_in rfl (lo := 48) (by decide) (hi := 57) (by decide)) (by decide) (Nat.le_of_ble_eq_true rfl) ?_
    rintro _ _ ⟨rfl, rfl⟩
    refine R_ifb_eq (pc := 22) 73 dX10_number_22 (by decide) (fun c_22 => ?_) (fun c_22 => ?_)
    · skip
      have hd : ¬ pdig (sg M.2.2.2.1 m a) = true := fun z => c_22 (let_dig.mpr z)
      refine R_aload_n0 (pc := 73) dX10_number_73 ?_
      refine G_X10_22 (pc := 74) dX10_number_74 (by assumption) ?_
      refine R_iload_n1 (pc := 77) dX10_number_77 ?_
      refine R_iload_n2 (pc := 78) dX10_number_78 ?_
      refine R_iastF (pc := 79) dX10_number_79 (by assumption) (in_n hp (by decide)) (fun h1 e1 f1 => ?_)
      rw [nI_clamp (show p < 2 ^ 31 by omega)] at e1 f1
      have q1 := mstep_n q1 e1
      have hM1 := mAt q1
      have mo1 := hM1.o
      have ms1 := hM1.s
      have mb1 := hM1.b
      have mt1 := hM1.t
      have mn1 := hM1.n
      have mc1 := hM1.c
      refine R_iload_n3 (pc := 80) dX10_number_80 ?_
      refine R_if_le (pc := 81) 88 dX10_number_81 (by decide) (fun c_81 => absurd c_81 (fun z => absurd (show nI n ≤ nI 0 from z) (nI_nle (show 0 < n by omega) (by omega)))) (fun c_81 => ?_)
      refine R_iconst (pc := 84) (v := 1) dX10_number_84 (by decide) ?_
      refine R_goto (pc := 85) 89 dX10_number_85 (by decide) ?_
      refine R_iret (pc := 89) rfl rfl dX10_number_89 ?_
      exact ⟨rfl, q1⟩
    · skip
      have hd : pdig (sg M.2.2.2.1 m a) = true := let_dig.mp c_22
      obtain ⟨e, he, hz⟩ := dig_val hd
      have hzl : z_let M.2.2.2.1 m a = nI (48 + e) := (let_val hd).trans hz
      refine R_iload_n3 (pc := 25) dX10_number_25 ?_
      refine R_bipush (pc := 26) (v := 6) dX10_number_26 (by decide) ?_
      refine R_icmp_ge (pc := 28) 73 dX10_number_28 (by decide) (fun c_28 => ?_) (fun c_28 => absurd (by rw [show n = 6 by omega]; decide) c_28)
      refine R_aload_n0 (pc := 73) dX10_number_73 ?_
      refine G_X10_22 (pc := 74) dX10_number_74 (by assumption) ?_
      refine R_iload_n1 (pc := 77) dX10_number_77 ?_
      refine R_iload_n2 (pc := 78) dX10_number_78 ?_
      refine R_iastF (pc := 79) dX10_number_79 (by assumption) (in_n hp (by decide)) (fun h2 e2 f2 => ?_)
      rw [nI_clamp (show p < 2 ^ 31 by omega)] at e2 f2
      have q2 := mstep_n q1 e2
      have hM2 := mAt q2
      have mo2 := hM2.o
      have ms2 := hM2.s
      have mb2 := hM2.b
      have mt2 := hM2.t
      have mn2 := hM2.n
      have mc2 := hM2.c
      refine R_iload_n3 (pc := 80) dX10_number_80 ?_
      refine R_if_le (pc := 81) 88 dX10_number_81 (by decide) (fun c_81 => absurd c_81 (fun z => absurd (show nI n ≤ nI 0 from z) (nI_nle (show 0 < n by omega) (by omega)))) (fun c_81 => ?_)
      refine R_iconst (pc := 84) (v := 1) dX10_number_84 (by decide) ?_
      refine R_goto (pc := 85) 89 dX10_number_85 (by decide) ?_
      refine R_iret (pc := 89) rfl rfl dX10_number_89 ?_
      exact ⟨rfl, q2⟩
  | succ k ih =>
    intro w n a h1 hk hn1 hw0 hw ha q1
    have hM1 := mAt q1
    have mo1 := hM1.o
    have ms1 := hM1.s
    have mb1 := hM1.b
    have mt1 := hM1.t
    have mn1 := hM1.n
    have mc1 := hM1.c
    have hw9 : w < 2 ^ 31 := Nat.lt_of_lt_of_le hw (Nat.le_trans (Nat.pow_le_pow_right (by decide) (show n ≤ 6 by omega)) (by decide))
    refine R_aload_n0 (pc := 4) dX10_number_4 ?_
    refine R_aload_n0 (pc := 5) dX10_number_5 ?_
    refine G_X10_165 (pc := 6) dX10_number_6 (by assumption) ?_
    rw [show (oM M a nu).1 10 = nI a from rfl]
    refine R_callV1 (pc := 9) (T := TX10) cal_X10_letterAt kw1074 kw1076 kw48 dX10_number_9 (c_X10_letterAt (a := a) hM1 hm (show (oM M (a) _).1 4 = nI m from hml) (by omega)) (by decide) (Nat.le_of_ble_eq_true rfl) (ci := 8) rfl (by assumption) ?_
    rintro _ _ ⟨rfl, rfl⟩
    refine R_i2l (pc := 12) dX10_number_12 ?_
    refine R_ldc2 (pc := 13) dX10_number_13 kw1085 ?_
    refine R_ldc2 (pc := 16) dX10_number_16 kw1086 ?_
    refine R_callS3 (pc := 19) cal_X10_in kw892 kw893 dX10_number_19 (c_X10_in rfl (lo := 48) (by decide) (hi := 57) (by decide)) (by decide) (Nat.le_of_ble_eq_true rfl) ?_
    rintro _ _ ⟨rfl, rfl⟩
    refine R_ifb_eq (pc := 22) 73 dX10_number_22 (by decide) (fun c_22 => ?_) (fun c_22 => ?_)
    · skip
      have hd : ¬ pdig (sg M.2.2.2.1 m a) = true := fun z => c_22 (let_dig.mpr z)
      refine R_aload_n0 (pc := 73) dX10_number_73 ?_
      refine G_X10_22 (pc := 74) dX10_number_74 (by assumption) ?_
      refine R_iload_n1 (pc := 77) dX10_number_77 ?_
      refine R_iload_n2 (pc := 78) dX10_number_78 ?_
      refine R_iastF (pc := 79) dX10_number_79 (by assumption) (in_n hp (by decide)) (fun h1 e1 f1 => ?_)
      rw [nI_clamp (show p < 2 ^ 31 by omega)] at e1 f1
      have q1 := mstep_n q1 e1
      have hM1 := mAt q1
      have mo1 := hM1.o
      have ms1 := hM1.s
      have mb1 := hM1.b
      have mt1 := hM1.t
      have mn1 := hM1.n
      have mc1 := hM1.c
      refine R_iload_n3 (pc := 80) dX10_number_80 ?_
      refine R_if_le (pc := 81) 88 dX10_number_81 (by decide) (fun c_81 => absurd c_81 (fun z => absurd (show nI n ≤ nI 0 from z) (nI_nle (show 0 < n by omega) (by omega)))) (fun c_81 => ?_)
      refine R_iconst (pc := 84) (v := 1) dX10_number_84 (by decide) ?_
      refine R_goto (pc := 85) 89 dX10_number_85 (by decide) ?_
      refine R_iret (pc := 89) rfl rfl dX10_number_89 ?_
      rw [pnum_n hd]
      exact ⟨rfl, q1⟩
    · skip
      have hd : pdig (sg M.2.2.2.1 m a) = true := let_dig.mp c_22
      obtain ⟨e, he, hz⟩ := dig_val hd
      have hzl : z_let M.2.2.2.1 m a = nI (48 + e) := (let_val hd).trans hz
      refine R_iload_n3 (pc := 25) dX10_number_25 ?_
      refine R_bipush (pc := 26) (v := 6) dX10_number_26 (by decide) ?_
      refine R_icmp_ge (pc := 28) 73 dX10_number_28 (by decide) (fun c_28 => absurd c_28 (nI_ge (show n < 6 by omega) (by decide))) (fun c_28 => ?_)
      refine R_iload_n3 (pc := 31) dX10_number_31 ?_
      refine R_iconst (pc := 32) (v := 1) dX10_number_32 (by decide) ?_
      refine R_icmp_ne (pc := 33) 40 dX10_number_33 (by decide) (fun c_33 => ?_) (fun c_33 => ?_)
      · skip
        refine R_bipush (pc := 40) (v := 10) dX10_number_40 (by decide) ?_
        refine R_iload_n2 (pc := 42) dX10_number_42 ?_
        refine R_imul (pc := 43) dX10_number_43 ?_
        refine R_aload_n0 (pc := 44) dX10_number_44 ?_
        refine R_aload_n0 (pc := 45) dX10_number_45 ?_
        refine G_X10_165 (pc := 46) dX10_number_46 (by assumption) ?_
        rw [show (oM M a nu).1 10 = nI a from rfl]
        refine R_callV1 (pc := 49) (T := TX10) cal_X10_letterAt kw1074 kw1076 kw48 dX10_number_49 (c_X10_letterAt (a := a) hM1 hm (show (oM M (a) _).1 4 = nI m from hml) (by omega)) (by decide) (Nat.le_of_ble_eq_true rfl) (ci := 8) rfl (by assumption) ?_
        rintro _ _ ⟨rfl, rfl⟩
        refine R_iadd (pc := 52) dX10_number_52 ?_
        refine R_bipush (pc := 53) (v := 48) dX10_number_53 (by decide) ?_
        refine R_isub (pc := 55) dX10_number_55 ?_
        rw [show z_let (oM M a nu).2.2.2.1 m a = nI (48 + e) from hzl, dig_s1]
        refine R_istore_n2 (pc := 56) dX10_number_56 rfl (by decide) ?_
        refine R_iinc3 (pc := 57) dX10_number_57 rfl (by decide) ?_
        refine R_aload_n0 (pc := 60) dX10_number_60 ?_
        refine R_dup (pc := 61) dX10_number_61 rfl ?_
        refine G_X10_165 (pc := 62) dX10_number_62 (by assumption) ?_
        rw [show (oM M a nu).1 10 = nI a from rfl]
        refine R_iconst (pc := 65) (v := 1) dX10_number_65 (by decide) ?_
        refine R_iadd (pc := 66) dX10_number_66 ?_
        rw [nI_1]
        refine P_X10_165 (pc := 67) dX10_number_67 (by assumption) (fun h2 e2 f2 => ?_)
        have q2 := mstep_o q1 e2
        have hM2 := mAt q2
        have mo2 := hM2.o
        have ms2 := hM2.s
        have mb2 := hM2.b
        have mt2 := hM2.t
        have mn2 := hM2.n
        have mc2 := hM2.c
        refine R_goto (pc := 70) 4 dX10_number_70 (by decide) ?_
        rw [nI_s, pnum_d hd hz]
        exact ih (10 * w + e) (n + 1) (a + 1) _ (by omega) (by omega) (by omega) (by rw [Nat.pow_succ]; omega) (by omega) (by rw [q2, oM_f])
      · skip
        refine R_iload_n2 (pc := 36) dX10_number_36 ?_
        refine R_if_le (pc := 37) 73 dX10_number_37 (by decide) (fun c_37 => absurd c_37 (fun z => absurd (show nI w ≤ nI 0 from z) (nI_nle (show 0 < w by omega) (by omega)))) (fun c_37 => ?_)
        refine R_bipush (pc := 40) (v := 10) dX10_number_40 (by decide) ?_
        refine R_iload_n2 (pc := 42) dX10_number_42 ?_
        refine R_imul (pc := 43) dX10_number_43 ?_
        refine R_aload_n0 (pc := 44) dX10_number_44 ?_
        refine R_aload_n0 (pc := 45) dX10_number_45 ?_
        refine G_X10_165 (pc := 46) dX10_number_46 (by assumption) ?_
        rw [show (oM M a nu).1 10 = nI a from rfl]
        refine R_callV1 (pc := 49) (T := TX10) cal_X10_letterAt kw1074 kw1076 kw48 dX10_number_49 (c_X10_letterAt (a := a) hM1 hm (show (oM M (a) _).1 4 = nI m from hml) (by omega)) (by decide) (Nat.le_of_ble_eq_true rfl) (ci := 8) rfl (by assumption) ?_
        rintro _ _ ⟨rfl, rfl⟩
        refine R_iadd (pc := 52) dX10_number_52 ?_
        refine R_bipush (pc := 53) (v := 48) dX10_number_53 (by decide) ?_
        refine R_isub (pc := 55) dX10_number_55 ?_
        rw [show z_let (oM M a nu).2.2.2.1 m a = nI (48 + e) from hzl, dig_s1]
        refine R_istore_n2 (pc := 56) dX10_number_56 rfl (by decide) ?_
        refine R_iinc3 (pc := 57) dX10_number_57 rfl (by decide) ?_
        refine R_aload_n0 (pc := 60) dX10_number_60 ?_
        refine R_dup (pc := 61) dX10_number_61 rfl ?_
        refine G_X10_165 (pc := 62) dX10_number_62 (by assumption) ?_
        rw [show (oM M a nu).1 10 = nI a from rfl]
        refine R_iconst (pc := 65) (v := 1) dX10_number_65 (by decide) ?_
        refine R_iadd (pc := 66) dX10_number_66 ?_
        rw [nI_1]
        refine P_X10_165 (pc := 67) dX10_number_67 (by assumption) (fun h3 e3 f3 => ?_)
        have q3 := mstep_o q1 e3
        have hM3 := mAt q3
        have mo3 := hM3.o
        have ms3 := hM3.s
        have mb3 := hM3.b
        have mt3 := hM3.t
        have mn3 := hM3.n
        have mc3 := hM3.c
        refine R_goto (pc := 70) 4 dX10_number_70 (by decide) ?_
        rw [nI_s, pnum_d hd hz]
        exact ih (10 * w + e) (n + 1) (a + 1) _ (by omega) (by omega) (by omega) (by rw [Nat.pow_succ]; omega) (by omega) (by rw [q3, oM_f])

set_option maxHeartbeats 4000000 in
set_option maxRecDepth 100000 in
theorem L_X10_number0 {m : Nat} (hm : m ≤ 100) (hml : M.1 4 = nI m) {p : Nat} (hp : p < 3) {nu : Nat → Int32} {a : Nat} (ha : a < 2 ^ 20) {h1 : AH} (q1 : h1 = mput h u (oM M a nu)) : RunM l D cA N0 m_X10_number 1 0 0 (fun r h' => r = some (.int 1) ∧ h' = mput h u (oM M a (upd nu p 0))) h1 0 0 4 [some (.ref u), some (.int (nI p)), some (.int 0), some (.int 1)] [] := by
  have hM1 := mAt q1
  have mo1 := hM1.o
  have ms1 := hM1.s
  have mb1 := hM1.b
  have mt1 := hM1.t
  have mn1 := hM1.n
  have mc1 := hM1.c
  refine R_aload_n0 (pc := 4) dX10_number_4 ?_
  refine R_aload_n0 (pc := 5) dX10_number_5 ?_
  refine G_X10_165 (pc := 6) dX10_number_6 (by assumption) ?_
  rw [show (oM M a nu).1 10 = nI a from rfl]
  refine R_callV1 (pc := 9) (T := TX10) cal_X10_letterAt kw1074 kw1076 kw48 dX10_number_9 (c_X10_letterAt (a := a) hM1 hm (show (oM M (a) _).1 4 = nI m from hml) (by omega)) (by decide) (Nat.le_of_ble_eq_true rfl) (ci := 8) rfl (by assumption) ?_
  rintro _ _ ⟨rfl, rfl⟩
  refine R_i2l (pc := 12) dX10_number_12 ?_
  refine R_ldc2 (pc := 13) dX10_number_13 kw1085 ?_
  refine R_ldc2 (pc := 16) dX10_number_16 kw1086 ?_
  refine R_callS3 (pc := 19) cal_X10_in kw892 kw893 dX10_number_19 (c_X10_in rfl (lo := 48) (by decide) (hi := 57) (by decide)) (by decide) (Nat.le_of_ble_eq_true rfl) ?_
  rintro _ _ ⟨rfl, rfl⟩
  refine R_ifb_eq (pc := 22) 73 dX10_number_22 (by decide) (fun c_22 => ?_) (fun c_22 => ?_)
  · skip
    have hd : ¬ pdig (sg M.2.2.2.1 m a) = true := fun z => c_22 (let_dig.mpr z)
    refine R_aload_n0 (pc := 73) dX10_number_73 ?_
    refine G_X10_22 (pc := 74) dX10_number_74 (by assumption) ?_
    refine R_iload_n1 (pc := 77) dX10_number_77 ?_
    refine R_iload_n2 (pc := 78) dX10_number_78 ?_
    refine R_iastF (pc := 79) dX10_number_79 (by assumption) (in_n hp (by decide)) (fun h1 e1 f1 => ?_)
    rw [nI_clamp (show p < 2 ^ 31 by omega)] at e1 f1
    have q1 := mstep_n q1 e1
    have hM1 := mAt q1
    have mo1 := hM1.o
    have ms1 := hM1.s
    have mb1 := hM1.b
    have mt1 := hM1.t
    have mn1 := hM1.n
    have mc1 := hM1.c
    refine R_iload_n3 (pc := 80) dX10_number_80 ?_
    refine R_if_le (pc := 81) 88 dX10_number_81 (by decide) (fun c0 => False.elim (by revert c0; decide)) (fun _ => ?_)
    refine R_iconst (pc := 84) (v := 1) dX10_number_84 (by decide) ?_
    refine R_goto (pc := 85) 89 dX10_number_85 (by decide) ?_
    refine R_iret (pc := 89) rfl rfl dX10_number_89 ?_
    exact ⟨rfl, q1⟩
  · skip
    have hd : pdig (sg M.2.2.2.1 m a) = true := let_dig.mp c_22
    obtain ⟨e, he, hz⟩ := dig_val hd
    have hzl : z_let M.2.2.2.1 m a = nI (48 + e) := (let_val hd).trans hz
    refine R_iload_n3 (pc := 25) dX10_number_25 ?_
    refine R_bipush (pc := 26) (v := 6) dX10_number_26 (by decide) ?_
    refine R_icmp_ge (pc := 28) 73 dX10_number_28 (by decide) (fun c0 => False.elim (by revert c0; decide)) (fun _ => ?_)
    refine R_iload_n3 (pc := 31) dX10_number_31 ?_
    refine R_iconst (pc := 32) (v := 1) dX10_number_32 (by decide) ?_
    refine R_icmp_ne (pc := 33) 40 dX10_number_33 (by decide) (fun c0 => False.elim (by revert c0; decide)) (fun _ => ?_)
    refine R_iload_n2 (pc := 36) dX10_number_36 ?_
    refine R_if_le (pc := 37) 73 dX10_number_37 (by decide) (fun _ => ?_) (fun c0 => False.elim (by revert c0; decide))
    refine R_aload_n0 (pc := 73) dX10_number_73 ?_
    refine G_X10_22 (pc := 74) dX10_number_74 (by assumption) ?_
    refine R_iload_n1 (pc := 77) dX10_number_77 ?_
    refine R_iload_n2 (pc := 78) dX10_number_78 ?_
    refine R_iastF (pc := 79) dX10_number_79 (by assumption) (in_n hp (by decide)) (fun h2 e2 f2 => ?_)
    rw [nI_clamp (show p < 2 ^ 31 by omega)] at e2 f2
    have q2 := mstep_n q1 e2
    have hM2 := mAt q2
    have mo2 := hM2.o
    have ms2 := hM2.s
    have mb2 := hM2.b
    have mt2 := hM2.t
    have mn2 := hM2.n
    have mc2 := hM2.c
    refine R_iload_n3 (pc := 80) dX10_number_80 ?_
    refine R_if_le (pc := 81) 88 dX10_number_81 (by decide) (fun c0 => False.elim (by revert c0; decide)) (fun _ => ?_)
    refine R_iconst (pc := 84) (v := 1) dX10_number_84 (by decide) ?_
    refine R_goto (pc := 85) 89 dX10_number_85 (by decide) ?_
    refine R_iret (pc := 89) rfl rfl dX10_number_89 ?_
    exact ⟨rfl, q2⟩

def zna (c : Nat → Int32) (a : Nat) : Nat := if pdig (c a) = true then (pnum c (pmost (c a)) 0 a).2 else a
def znv (c : Nat → Int32) (a : Nat) : Int32 := if pdig (c a) = true then (pnum c (pmost (c a)) 0 a).1 else 0
theorem zn_n {c : Nat → Int32} {a : Nat} (h : ¬ pdig (c a) = true) : zna c a = a ∧ znv c a = 0 := ⟨if_neg h, if_neg h⟩
theorem zn_0 {c : Nat → Int32} {a : Nat} (h : pdig (c a) = true) (he : c a = nI (48 + 0)) : zna c a = a + 1 ∧ znv c a = 0 := by
  have e : pnum c (pmost (c a)) 0 a = (0, a + 1) := by
    rw [show pmost (c a) = 0 + 1 from if_pos he, show (0 : Int32) = nI 0 from rfl, pnum_d h he]
    rfl
  exact ⟨(if_pos h).trans (by rw [e]), (if_pos h).trans (by rw [e])⟩
theorem zn_1 {c : Nat → Int32} {a e : Nat} (h : pdig (c a) = true) (he : c a = nI (48 + e)) (h0 : ¬ e = 0) (h10 : e < 10) : zna c a = (pnum c 5 (nI e) (a + 1)).2 ∧ znv c a = (pnum c 5 (nI e) (a + 1)).1 := by
  have e2 : pnum c (pmost (c a)) 0 a = pnum c 5 (nI e) (a + 1) := by
    rw [show pmost (c a) = 5 + 1 from if_neg (fun z => h0 (by
      have := (nI_eq (a := 48 + e) (b := 48) (by omega) (by decide)).mp (he.symm.trans z)
      omega)), show (0 : Int32) = nI 0 from rfl, pnum_d h he, Nat.mul_zero, Nat.zero_add]
  exact ⟨(if_pos h).trans (by rw [e2]), (if_pos h).trans (by rw [e2])⟩
set_option maxHeartbeats 4000000 in
set_option maxRecDepth 100000 in
theorem L_X10_numberS {m : Nat} (hm : m ≤ 100) (hml : M.1 4 = nI m) {p a : Nat} (hp : p < 3) (ha : a + 8 < 2 ^ 20) {nu : Nat → Int32} {h1 : AH} (q1 : h1 = mput h u (oM M a nu)) : RunM l D cA N0 m_X10_number 1 0 0 (fun r h' => r = some (.int (bI (pdig ((sg M.2.2.2.1 m) a) = true))) ∧ h' = mput h u (oM M (zna (sg M.2.2.2.1 m) a) (upd nu p (znv (sg M.2.2.2.1 m) a)))) h1 0 0 4 [some (.ref u), some (.int (nI p)), some (.int 0), some (.int 0)] [] := by
  have hM1 := mAt q1
  have mo1 := hM1.o
  have ms1 := hM1.s
  have mb1 := hM1.b
  have mt1 := hM1.t
  have mn1 := hM1.n
  have mc1 := hM1.c
  refine R_aload_n0 (pc := 4) dX10_number_4 ?_
  refine R_aload_n0 (pc := 5) dX10_number_5 ?_
  refine G_X10_165 (pc := 6) dX10_number_6 (by assumption) ?_
  rw [show (oM M a nu).1 10 = nI a from rfl]
  refine R_callV1 (pc := 9) (T := TX10) cal_X10_letterAt kw1074 kw1076 kw48 dX10_number_9 (c_X10_letterAt (a := a) hM1 hm (show (oM M (a) _).1 4 = nI m from hml) (by omega)) (by decide) (Nat.le_of_ble_eq_true rfl) (ci := 8) rfl (by assumption) ?_
  rintro _ _ ⟨rfl, rfl⟩
  refine R_i2l (pc := 12) dX10_number_12 ?_
  refine R_ldc2 (pc := 13) dX10_number_13 kw1085 ?_
  refine R_ldc2 (pc := 16) dX10_number_16 kw1086 ?_
  refine R_callS3 (pc := 19) cal_X10_in kw892 kw893 dX10_number_19 (c_X10_in rfl (lo := 48) (by decide) (hi := 57) (by decide)) (by decide) (Nat.le_of_ble_eq_true rfl) ?_
  rintro _ _ ⟨rfl, rfl⟩
  refine R_ifb_eq (pc := 22) 73 dX10_number_22 (by decide) (fun c_22 => ?_) (fun c_22 => ?_)
  · skip
    have hd : ¬ pdig (sg M.2.2.2.1 m a) = true := fun z => c_22 (let_dig.mpr z)
    refine R_aload_n0 (pc := 73) dX10_number_73 ?_
    refine G_X10_22 (pc := 74) dX10_number_74 (by assumption) ?_
    refine R_iload_n1 (pc := 77) dX10_number_77 ?_
    refine R_iload_n2 (pc := 78) dX10_number_78 ?_
    refine R_iastF (pc := 79) dX10_number_79 (by assumption) (in_n hp (by decide)) (fun h1 e1 f1 => ?_)
    rw [nI_clamp (show p < 2 ^ 31 by omega)] at e1 f1
    have q1 := mstep_n q1 e1
    have hM1 := mAt q1
    have mo1 := hM1.o
    have ms1 := hM1.s
    have mb1 := hM1.b
    have mt1 := hM1.t
    have mn1 := hM1.n
    have mc1 := hM1.c
    refine R_iload_n3 (pc := 80) dX10_number_80 ?_
    refine R_if_le (pc := 81) 88 dX10_number_81 (by decide) (fun _ => ?_) (fun c0 => False.elim (by revert c0; decide))
    refine R_iconst (pc := 88) (v := 0) dX10_number_88 (by decide) ?_
    refine R_iret (pc := 89) rfl rfl dX10_number_89 ?_
    rw [(zn_n hd).1, (zn_n hd).2, bI_f hd]
    exact ⟨rfl, q1⟩
  · skip
    have hd : pdig (sg M.2.2.2.1 m a) = true := let_dig.mp c_22
    obtain ⟨e, he, hz⟩ := dig_val hd
    have hzl : z_let M.2.2.2.1 m a = nI (48 + e) := (let_val hd).trans hz
    have hz0 : (10 : Int32) * 0 + nI (48 + e) - 48 = nI e := by rw [show (0 : Int32) = nI 0 from rfl, dig_s1, Nat.mul_zero, Nat.zero_add]
    refine R_iload_n3 (pc := 25) dX10_number_25 ?_
    refine R_bipush (pc := 26) (v := 6) dX10_number_26 (by decide) ?_
    refine R_icmp_ge (pc := 28) 73 dX10_number_28 (by decide) (fun c0 => False.elim (by revert c0; decide)) (fun _ => ?_)
    refine R_iload_n3 (pc := 31) dX10_number_31 ?_
    refine R_iconst (pc := 32) (v := 1) dX10_number_32 (by decide) ?_
    refine R_icmp_ne (pc := 33) 40 dX10_number_33 (by decide) (fun _ => ?_) (fun c0 => False.elim (by revert c0; decide))
    refine R_bipush (pc := 40) (v := 10) dX10_number_40 (by decide) ?_
    refine R_iload_n2 (pc := 42) dX10_number_42 ?_
    refine R_imul (pc := 43) dX10_number_43 ?_
    refine R_aload_n0 (pc := 44) dX10_number_44 ?_
    refine R_aload_n0 (pc := 45) dX10_number_45 ?_
    refine G_X10_165 (pc := 46) dX10_number_46 (by assumption) ?_
    rw [show (oM M a nu).1 10 = nI a from rfl]
    refine R_callV1 (pc := 49) (T := TX10) cal_X10_letterAt kw1074 kw1076 kw48 dX10_number_49 (c_X10_letterAt (a := a) hM1 hm (show (oM M (a) _).1 4 = nI m from hml) (by omega)) (by decide) (Nat.le_of_ble_eq_true rfl) (ci := 8) rfl (by assumption) ?_
    rintro _ _ ⟨rfl, rfl⟩
    refine R_iadd (pc := 52) dX10_number_52 ?_
    refine R_bipush (pc := 53) (v := 48) dX10_number_53 (by decide) ?_
    refine R_isub (pc := 55) dX10_number_55 ?_
    rw [show z_let (oM M a nu).2.2.2.1 m a = nI (48 + e) from hzl, hz0]
    refine R_istore_n2 (pc := 56) dX10_number_56 rfl (by decide) ?_
    refine R_iinc3 (pc := 57) dX10_number_57 rfl (by decide) ?_
    refine R_aload_n0 (pc := 60) dX10_number_60 ?_
    refine R_dup (pc := 61) dX10_number_61 rfl ?_
    refine G_X10_165 (pc := 62) dX10_number_62 (by assumption) ?_
    rw [show (oM M a nu).1 10 = nI a from rfl]
    refine R_iconst (pc := 65) (v := 1) dX10_number_65 (by decide) ?_
    refine R_iadd (pc := 66) dX10_number_66 ?_
    rw [nI_1]
    refine P_X10_165 (pc := 67) dX10_number_67 (by assumption) (fun h2 e2 f2 => ?_)
    have q2 := mstep_o q1 e2
    have hM2 := mAt q2
    have mo2 := hM2.o
    have ms2 := hM2.s
    have mb2 := hM2.b
    have mt2 := hM2.t
    have mn2 := hM2.n
    have mc2 := hM2.c
    refine R_goto (pc := 70) 4 dX10_number_70 (by decide) ?_
    by_cases e0 : e = 0
    · subst e0
      rw [(zn_0 hd hz).1, (zn_0 hd hz).2, bI_t hd]
      refine Run.cast (L_X10_number0 hm hml hp (a := a + 1) (by omega) (by rw [q2, oM_f])) rfl rfl rfl rfl ?_ rfl
      rfl
    · rw [(zn_1 hd hz e0 he).1, (zn_1 hd hz e0 he).2, bI_t hd]
      refine Run.cast (L_X10_number hm hml hp 5 e 1 (a + 1) _ rfl (by decide) (by omega) (by omega) (by omega) (by rw [q2, oM_f])) rfl rfl rfl rfl ?_ rfl
      rfl

set_option maxHeartbeats 4000000 in
set_option maxRecDepth 100000 in
theorem c_X10_number {m : Nat} (hm : m ≤ 100) (hml : M.1 4 = nI m) {p a : Nat} (hp : p < 3) (ha : a + 8 < 2 ^ 20) {nu : Nat → Int32} {h1 : AH} (q1 : h1 = mput h u (oM M a nu)) : Spec l D cA N0 m_X10_number 1 0 0 [.ref u, .int (nI p)] h1 (fun r h' => r = some (.int (bI (pdig ((sg M.2.2.2.1 m) a) = true))) ∧ h' = mput h u (oM M (zna (sg M.2.2.2.1 m) a) (upd nu p (znv (sg M.2.2.2.1 m) a)))) := by
  refine Spec.of (L := [some (.ref u), some (.int (nI p)), none, none]) (by decide) rfl (Nat.le_of_ble_eq_true rfl) ?_
  have hM1 := mAt q1
  have mo1 := hM1.o
  have ms1 := hM1.s
  have mb1 := hM1.b
  have mt1 := hM1.t
  have mn1 := hM1.n
  have mc1 := hM1.c
  refine R_iconst (pc := 0) (v := 0) dX10_number_0 (by decide) ?_
  refine R_istore_n2 (pc := 1) dX10_number_1 rfl (by decide) ?_
  refine R_iconst (pc := 2) (v := 0) dX10_number_2 (by decide) ?_
  refine R_istore_n3 (pc := 3) dX10_number_3 rfl (by decide) ?_
  exact L_X10_numberS hm hml hp ha q1

end LV37
