/-! THE REFERENCE: fights, the end of a turn, snapshots, undo, text -/
def z_fa (s : Nat → Int32) (i j : Nat) : Nat → Int32 := z_lose (z_lose s i 5 ((gx s j 5 + 3) / 4)) j 5 ((gx s i 5 + 3) / 4)
def z_cpt (s : Nat → Int32) (l w : Nat) : Nat → Int32 :=
  let half := gx s w 5 / 2
  let s2 := px (px s l 0 (gx s w 0)) l 5 half
  let s3 := px s2 w 5 (gx s2 w 5 - half)
  upd s3 11 (s3 11 + 1)
def z_fight (s : Nat → Int32) (i j : Nat) : Nat → Int32 := if gx (z_fa s i j) i 5 = 0 then (if gx (z_fa s i j) j 5 = 0 then z_cutf (z_fa s i j) i else z_cutf (z_cpt (z_fa s i j) i j) i) else (if gx (z_fa s i j) j 5 = 0 then z_cutf (z_cpt (z_fa s i j) j i) i else z_fa s i j)
theorem gx_11 (s : Nat → Int32) (v : Int32) (i k : Nat) : gx (upd s 11 v) i k = gx s i k := if_neg (by omega)
theorem gx7_fa (s : Nat → Int32) (i j e : Nat) : gx (z_fa s i j) e 7 = gx s e 7 := by
  unfold z_fa z_lose
  rw [gx_px (by decide) (by decide) (by decide), gx_px (by decide) (by decide) (by decide)]
theorem gx7_cpt (s : Nat → Int32) (l w e : Nat) : gx (z_cpt s l w) e 7 = gx s e 7 := by
  unfold z_cpt
  rw [gx_11, gx_px (by decide) (by decide) (by decide), gx_px (by decide) (by decide) (by decide), gx_px (by decide) (by decide) (by decide)]
theorem px_10 (s : Nat → Int32) (i k : Nat) (v : Int32) {q : Nat} (hq : q < 93) : px s i k v q = s q := if_neg (by omega)
theorem z_cutf_10 (s : Nat → Int32) (i : Nat) {q : Nat} (hq : q < 93) : z_cutf s i q = s q := by
  unfold z_cutf
  split
  · rfl
  · rw [px_10 _ _ _ _ hq, px_10 _ _ _ _ hq]
theorem z_fa_10 (s : Nat → Int32) (i j : Nat) {q : Nat} (hq : q < 93) : z_fa s i j q = s q := by
  unfold z_fa z_lose
  rw [px_10 _ _ _ _ hq, px_10 _ _ _ _ hq]
theorem z_cpt_10 (s : Nat → Int32) (i j : Nat) {q : Nat} (hq : q < 93) (h11 : q ≠ 11) : z_cpt s i j q = s q := by
  unfold z_cpt
  rw [show ∀ (f : Nat → Int32) (v : Int32), upd f 11 v q = f q from fun f v => if_neg h11, px_10 _ _ _ _ hq, px_10 _ _ _ _ hq, px_10 _ _ _ _ hq]
theorem z_fight_10 (s : Nat → Int32) (i j : Nat) {q : Nat} (hq : q < 93) (h11 : q ≠ 11) : z_fight s i j q = s q := by
  unfold z_fight
  split
  · split
    · rw [z_cutf_10 _ _ hq, z_fa_10 _ _ _ hq]
    · rw [z_cutf_10 _ _ hq, z_cpt_10 _ _ _ hq h11, z_fa_10 _ _ _ hq]
  · split
    · rw [z_cutf_10 _ _ hq, z_cpt_10 _ _ _ hq h11, z_fa_10 _ _ _ hq]
    · rw [z_fa_10 _ _ _ hq]
theorem Wok.cutf {s : Nat → Int32} (h : Wok s) (i : Nat) : Wok (z_cutf s i) := fun e he => by
  unfold z_cutf
  split
  · exact h e he
  · by_cases h1 : e = i
    · subst h1; rw [gx_pxe]; exact Or.inl (by decide)
    · rw [gx_pxi (by decide) (by decide) h1]
      by_cases h2 : e = (gx s i 7).toNatClampNeg
      · subst h2; rw [gx_pxe]; exact Or.inl (by decide)
      · rw [gx_pxi (by decide) (by decide) h2]; exact h e he
theorem Wok.fight {s : Nat → Int32} (h : Wok s) (i j : Nat) : Wok (z_fight s i j) := by
  have hf : Wok (z_fa s i j) := fun e he => by rw [gx7_fa]; exact h e he
  have hc : ∀ a b, Wok (z_cpt (z_fa s i j) a b) := fun a b e he => by rw [gx7_cpt]; exact hf e he
  unfold z_fight
  split
  · split
    · exact hf.cutf i
    · exact (hc _ _).cutf i
  · split
    · exact (hc _ _).cutf i
    · exact hf
def z_e1 (s : Nat → Int32) (i : Nat) : Nat → Int32 := px (if nI i < gx s i 7 then z_fight s i (gx s i 7).toNatClampNeg else s) i 10 0
theorem z_e1_10 (s : Nat → Int32) (i : Nat) {q : Nat} (hq : q < 93) (h11 : q ≠ 11) : z_e1 s i q = s q := by
  unfold z_e1
  rw [px_10 _ _ _ _ hq]
  split
  · exact z_fight_10 s i _ hq h11
  · rfl
theorem Wok.e1 {s : Nat → Int32} (h : Wok s) (i : Nat) : Wok (z_e1 s i) := fun e he => by
  unfold z_e1
  rw [gx_px (by decide) (by decide) (by decide)]
  split
  · exact h.fight i _ e he
  · exact h e he
def z_eov (s : Nat → Int32) : Nat → Int32 := upd (upd s 1 0) 0 (upd s 1 0 0 + 1)
def zw_end (M : Mm) (sn m : Nat) : Int32 × Mm := if M.2.1 1 = 0 then (-2, M) else (z_eov (zk z_e1 M.2.1 0 sn) 0, sM (z_act M m) (z_eov (zk z_e1 M.2.1 0 sn)))
def z_tk (s : Nat → Int32) (t i : Nat) : Nat → Int32 := fun j => if 183 + 181 * t ≤ j ∧ j < 183 + 181 * t + i then s (j - (183 + 181 * t)) else s j
theorem z_tk_0 (s : Nat → Int32) (t : Nat) : z_tk s t 0 = s := by funext j; exact if_neg (by omega)
theorem z_tk_s (s : Nat → Int32) (t i : Nat) (hi : i < 181) : upd (z_tk s t i) (183 + 181 * t + i) (z_tk s t i i) = z_tk s t (i + 1) := by
  funext j
  simp only [upd, z_tk]
  by_cases h : j = 183 + 181 * t + i
  · rw [if_pos h, if_neg (by omega), if_pos (by omega), show j - (183 + 181 * t) = i by omega]
  · rw [if_neg h]
    by_cases h2 : 183 + 181 * t ≤ j ∧ j < 183 + 181 * t + i
    · rw [if_pos h2, if_pos (by omega)]
    · rw [if_neg h2, if_neg (by omega)]
def zw_take (M : Mm) (m : Nat) (x : Int32) : Int32 × Mm := if 0 ≤ x ∧ x ≤ 1 then (z_tk (upd M.2.1 (181 + x.toNatClampNeg) 1) x.toNatClampNeg 181 0, sM (z_act M m) (z_tk (upd M.2.1 (181 + x.toNatClampNeg) 1) x.toNatClampNeg 181)) else (-1, M)
def z_rs2 (s : Nat → Int32) (t i : Nat) : Nat → Int32 := fun j => if j < i then s (183 + 181 * t + j) else s j
theorem z_rs2_0 (s : Nat → Int32) (t : Nat) : z_rs2 s t 0 = s := by funext j; exact if_neg (Nat.not_lt_zero j)
theorem z_rs2_s (s : Nat → Int32) (t i : Nat) (hi : i < 181) : upd (z_rs2 s t i) i (z_rs2 s t i (183 + 181 * t + i)) = z_rs2 s t (i + 1) := by
  funext j
  simp only [upd, z_rs2]
  by_cases h : j = i
  · rw [if_pos h, if_neg (by omega), if_pos (by omega), h]
  · rw [if_neg h]
    by_cases h2 : j < i
    · rw [if_pos h2, if_pos (by omega)]
    · rw [if_neg h2, if_neg (by omega)]
def zw_rest (M : Mm) (m : Nat) (x : Int32) : Int32 × Mm := if 0 ≤ x ∧ x ≤ 1 then (if M.2.1 (181 + x.toNatClampNeg) = 0 then (-2, M) else (z_rs2 M.2.1 x.toNatClampNeg 181 0, sM (z_act M m) (z_rs2 M.2.1 x.toNatClampNeg 181))) else (-1, M)
def z_un (b s : Nat → Int32) (m i : Nat) : Nat → Int32 := fun j => if j < i then b (545 * m + j) else s j
theorem z_un_0 (b s : Nat → Int32) (m : Nat) : z_un b s m 0 = s := by funext j; exact if_neg (Nat.not_lt_zero j)
theorem z_un_s (b s : Nat → Int32) (m i : Nat) : upd (z_un b s m i) i (b (545 * m + i)) = z_un b s m (i + 1) := by
  funext j
  simp only [upd, z_un]
  by_cases h : j = i
  · rw [if_pos h, if_pos (by omega), h]
  · rw [if_neg h]
    by_cases h2 : j < i
    · rw [if_pos h2, if_pos (by omega)]
    · rw [if_neg h2, if_neg (by omega)]
def zw_undo (M : Mm) (m : Nat) : Int32 × Mm := if m = 0 then (-2, M) else (nI (m - 1), sM (fM M 3 (nI (m - 1))) (z_un M.2.2.1 M.2.1 (m - 1) 545))
def zw_app (M : Mm) (m : Nat) (x : Int32) : Int32 × Mm := if 1 ≤ x ∧ x ≤ 255 then (if m = 100 then (-3, M) else (nI (m + 1), fM (tM M (upd M.2.2.2.1 m x)) 4 (nI (m + 1)))) else (-1, M)
theorem sM_sM (M : Mm) (a b : Nat → Int32) : sM (sM M a) b = sM M b := rfl
section LV35
variable {l : Launch} {D : va_G} {cA : Nat → ClassId} {N0 : Nat} {h : AH} {u : Nat} {M : Mm}
theorem q_gen {h1 h2 : AH} {X : Mm} {s : Nat → Int32} (q : h1 = mput h2 u (sM X s)) (e : ∀ z, sM X z = sM M z) : ∃ z, z = s ∧ h1 = mput h2 u (sM M z) := ⟨s, rfl, by rw [q, e]⟩
set_option maxHeartbeats 4000000 in
set_option maxRecDepth 100000 in
theorem c_X10_fight (hM : MAt h u M) (hwk : Wok M.2.1) {i j : Nat} (hi : i < 8) (hj : j < 8) : Spec l D cA N0 m_X10_fight 2 0 0 [.ref u, .int (nI i), .int (nI j)] h (fun r h' => r = none ∧ h' = mput h u (sM M (z_fight M.2.1 i j))) := by
  refine Spec.of (L := [some (.ref u), some (.int (nI i)), some (.int (nI j)), none, none, none, none, none, none, none]) (by decide) rfl (Nat.le_of_ble_eq_true rfl) ?_
  have q0 : h = mput h u M := (mput_self hM).symm
  have mo0 := hM.o
  have ms0 := hM.s
  have mb0 := hM.b
  have mt0 := hM.t
  have mn0 := hM.n
  have mc0 := hM.c
  refine R_aload_n0 (pc := 0) dX10_fight_0 ?_
  refine R_iload_n1 (pc := 1) dX10_fight_1 ?_
  refine R_iconst (pc := 2) (v := 5) dX10_fight_2 (by decide) ?_
  refine R_callV2 (pc := 3) (T := TX10) cal_X10_get kw899 kw901 kw25 dX10_fight_3 (c_X10_get hM (by assumption) (k := 5) (by decide)) (by decide) (Nat.le_of_ble_eq_true rfl) (ci := 8) rfl (by assumption) ?_
  rintro _ _ ⟨rfl, rfl⟩
  refine R_istore_n3 (pc := 6) dX10_fight_6 rfl (by decide) ?_
  refine R_aload_n0 (pc := 7) dX10_fight_7 ?_
  refine R_iload_n2 (pc := 8) dX10_fight_8 ?_
  refine R_iconst (pc := 9) (v := 5) dX10_fight_9 (by decide) ?_
  refine R_callV2 (pc := 10) (T := TX10) cal_X10_get kw899 kw901 kw25 dX10_fight_10 (c_X10_get hM (by assumption) (k := 5) (by decide)) (by decide) (Nat.le_of_ble_eq_true rfl) (ci := 8) rfl (by assumption) ?_
  rintro _ _ ⟨rfl, rfl⟩
  refine R_istore4 (pc := 13) dX10_fight_13 rfl (by decide) ?_
  refine R_aload_n0 (pc := 15) dX10_fight_15 ?_
  refine R_iload_n1 (pc := 16) dX10_fight_16 ?_
  refine R_iconst (pc := 17) (v := 5) dX10_fight_17 (by decide) ?_
  refine R_iload4 (pc := 18) dX10_fight_18 ?_
  refine R_iconst (pc := 20) (v := 3) dX10_fight_20 (by decide) ?_
  refine R_iadd (pc := 21) dX10_fight_21 ?_
  refine R_iconst (pc := 22) (v := 4) dX10_fight_22 (by decide) ?_
  refine R_idiv (pc := 23) dX10_fight_23 (by decide) ?_
  refine R_callV3 (pc := 24) (T := TX10) cal_X10_lose kw1005 kw1007 kw42 dX10_fight_24 (c_X10_lose hM (by assumption) (k := 5) (by decide)) (by decide) (Nat.le_of_ble_eq_true rfl) (ci := 8) rfl (by assumption) ?_
  rintro _ h1 ⟨rfl, e1⟩
  have q1 := mstep_M q0 e1
  have hM1 := mAt q1
  have mo1 := hM1.o
  have ms1 := hM1.s
  have mb1 := hM1.b
  have mt1 := hM1.t
  have mn1 := hM1.n
  have mc1 := hM1.c
  obtain ⟨z1, hz1, q1⟩ := q_gen (M := M) q1 (fun _ => rfl)
  have hM1 := mAt q1
  have mo1 := hM1.o
  have ms1 := hM1.s
  have mb1 := hM1.b
  have mt1 := hM1.t
  have mn1 := hM1.n
  have mc1 := hM1.c
  have hw : gx z1 i 7 < 0 ∨ ∃ g, g < 8 ∧ gx z1 i 7 = nI g := by rw [hz1, z_lose, gx_px (by decide) (by decide) (by decide)]; exact (hwk i hi)
  refine R_aload_n0 (pc := 27) dX10_fight_27 ?_
  refine R_iload_n2 (pc := 28) dX10_fight_28 ?_
  refine R_iconst (pc := 29) (v := 5) dX10_fight_29 (by decide) ?_
  refine R_iload_n3 (pc := 30) dX10_fight_30 ?_
  refine R_iconst (pc := 31) (v := 3) dX10_fight_31 (by decide) ?_
  refine R_iadd (pc := 32) dX10_fight_32 ?_
  refine R_iconst (pc := 33) (v := 4) dX10_fight_33 (by decide) ?_
  refine R_idiv (pc := 34) dX10_fight_34 (by decide) ?_
  refine R_callV3 (pc := 35) (T := TX10) cal_X10_lose kw1005 kw1007 kw42 dX10_fight_35 (c_X10_lose hM1 (by assumption) (k := 5) (by decide)) (by decide) (Nat.le_of_ble_eq_true rfl) (ci := 8) rfl (by assumption) ?_
  rintro _ h2 ⟨rfl, e2⟩
  have q2 := mstep_M q1 e2
  have hM2 := mAt q2
  have mo2 := hM2.o
  have ms2 := hM2.s
  have mb2 := hM2.b
  have mt2 := hM2.t
  have mn2 := hM2.n
  have mc2 := hM2.c
  obtain ⟨z2, hz2, q2⟩ := q_gen (M := M) q2 (fun _ => rfl)
  have hM2 := mAt q2
  have mo2 := hM2.o
  have ms2 := hM2.s
  have mb2 := hM2.b
  have mt2 := hM2.t
  have mn2 := hM2.n
  have mc2 := hM2.c
  have hw : gx z2 i 7 < 0 ∨ ∃ g, g < 8 ∧ gx z2 i 7 = nI g := by rw [hz2, z_lose, gx_px (by decide) (by decide) (by decide)]; exact hw
  have hfa : z2 = z_fa M.2.1 i j := by rw [hz2, hz1]; rfl
  refine R_aload_n0 (pc := 38) dX10_fight_38 ?_
  refine R_iload_n1 (pc := 39) dX10_fight_39 ?_
  refine R_iconst (pc := 40) (v := 5) dX10_fight_40 (by decide) ?_
  refine R_callV2 (pc := 41) (T := TX10) cal_X10_get kw899 kw901 kw25 dX10_fight_41 (c_X10_get hM2 (by assumption) (k := 5) (by decide)) (by decide) (Nat.le_of_ble_eq_true rfl) (ci := 8) rfl (by assumption) ?_
  rintro _ _ ⟨rfl, rfl⟩
  refine R_if_ne (pc := 44) 51 dX10_fight_44 (by decide) (fun c_44 => ?_) (fun c_44 => ?_)
  · skip
    have c_44 : ¬ gx z2 i 5 = 0 := c_44
    refine R_iconst (pc := 51) (v := 0) dX10_fight_51 (by decide) ?_
    refine R_istore5 (pc := 52) dX10_fight_52 rfl (by decide) ?_
    refine R_aload_n0 (pc := 54) dX10_fight_54 ?_
    refine R_iload_n2 (pc := 55) dX10_fight_55 ?_
    refine R_iconst (pc := 56) (v := 5) dX10_fight_56 (by decide) ?_
    refine R_callV2 (pc := 57) (T := TX10) cal_X10_get kw899 kw901 kw25 dX10_fight_57 (c_X10_get hM2 (by assumption) (k := 5) (by decide)) (by decide) (Nat.le_of_ble_eq_true rfl) (ci := 8) rfl (by assumption) ?_
    rintro _ _ ⟨rfl, rfl⟩
    refine R_if_ne (pc := 60) 67 dX10_fight_60 (by decide) (fun c_60 => ?_) (fun c_60 => ?_)
    · skip
      have c_60 : ¬ gx z2 j 5 = 0 := c_60
      refine R_iconst (pc := 67) (v := 0) dX10_fight_67 (by decide) ?_
      refine R_istore6 (pc := 68) dX10_fight_68 rfl (by decide) ?_
      refine R_iload5 (pc := 70) dX10_fight_70 ?_
      refine R_iload6 (pc := 72) dX10_fight_72 ?_
      refine R_icmp_eq (pc := 74) 163 dX10_fight_74 (by decide) (fun _ => ?_) (fun c0 => False.elim (by revert c0; decide))
      refine R_iload5 (pc := 163) dX10_fight_163 ?_
      refine R_if_ne (pc := 165) 173 dX10_fight_165 (by decide) (fun c0 => False.elim (by revert c0; decide)) (fun _ => ?_)
      refine R_iload6 (pc := 168) dX10_fight_168 ?_
      refine R_if_eq (pc := 170) 178 dX10_fight_170 (by decide) (fun _ => ?_) (fun c0 => False.elim (by revert c0; decide))
      refine R_vret (pc := 178) rfl dX10_fight_178 ?_
      refine ⟨rfl, ?_⟩
      rw [z_fight, ← hfa, if_neg c_44, if_neg c_60]
      exact q2
    · skip
      have c_60 : gx z2 j 5 = 0 := c_60
      refine R_iconst (pc := 63) (v := 1) dX10_fight_63 (by decide) ?_
      refine R_goto (pc := 64) 68 dX10_fight_64 (by decide) ?_
      refine R_istore6 (pc := 68) dX10_fight_68 rfl (by decide) ?_
      refine R_iload5 (pc := 70) dX10_fight_70 ?_
      refine R_iload6 (pc := 72) dX10_fight_72 ?_
      refine R_icmp_eq (pc := 74) 163 dX10_fight_74 (by decide) (fun c0 => False.elim (by revert c0; decide)) (fun _ => ?_)
      refine R_iload5 (pc := 77) dX10_fight_77 ?_
      refine R_if_eq (pc := 79) 86 dX10_fight_79 (by decide) (fun _ => ?_) (fun c0 => False.elim (by revert c0; decide))
      refine R_iload_n2 (pc := 86) dX10_fight_86 ?_
      refine R_istore7 (pc := 87) dX10_fight_87 rfl (by decide) ?_
      refine R_iload5 (pc := 89) dX10_fight_89 ?_
      refine R_if_eq (pc := 91) 98 dX10_fight_91 (by decide) (fun _ => ?_) (fun c0 => False.elim (by revert c0; decide))
      refine R_iload_n1 (pc := 98) dX10_fight_98 ?_
      refine R_istore8 (pc := 99) dX10_fight_99 rfl (by decide) ?_
      refine R_aload_n0 (pc := 101) dX10_fight_101 ?_
      refine R_iload8 (pc := 102) dX10_fight_102 ?_
      refine R_iconst (pc := 104) (v := 5) dX10_fight_104 (by decide) ?_
      refine R_callV2 (pc := 105) (T := TX10) cal_X10_get kw899 kw901 kw25 dX10_fight_105 (c_X10_get hM2 (by assumption) (k := 5) (by decide)) (by decide) (Nat.le_of_ble_eq_true rfl) (ci := 8) rfl (by assumption) ?_
      rintro _ _ ⟨rfl, rfl⟩
      refine R_iconst (pc := 108) (v := 2) dX10_fight_108 (by decide) ?_
      refine R_idiv (pc := 109) dX10_fight_109 (by decide) ?_
      refine R_istore9 (pc := 110) dX10_fight_110 rfl (by decide) ?_
      refine R_aload_n0 (pc := 112) dX10_fight_112 ?_
      refine R_iload7 (pc := 113) dX10_fight_113 ?_
      refine R_iconst (pc := 115) (v := 0) dX10_fight_115 (by decide) ?_
      refine R_aload_n0 (pc := 116) dX10_fight_116 ?_
      refine R_iload8 (pc := 117) dX10_fight_117 ?_
      refine R_iconst (pc := 119) (v := 0) dX10_fight_119 (by decide) ?_
      refine R_callV2 (pc := 120) (T := TX10) cal_X10_get kw899 kw901 kw25 dX10_fight_120 (c_X10_get hM2 (by assumption) (k := 0) (by decide)) (by decide) (Nat.le_of_ble_eq_true rfl) (ci := 8) rfl (by assumption) ?_
      rintro _ _ ⟨rfl, rfl⟩
      refine R_callV3 (pc := 123) (T := TX10) cal_X10_put kw930 kw932 kw30 dX10_fight_123 (c_X10_put hM2 (by assumption) (k := 0) (by decide)) (by decide) (Nat.le_of_ble_eq_true rfl) (ci := 8) rfl (by assumption) ?_
      rintro _ h3 ⟨rfl, e3⟩
      have q3 := mstep_M q2 e3
      have hM3 := mAt q3
      have mo3 := hM3.o
      have ms3 := hM3.s
      have mb3 := hM3.b
      have mt3 := hM3.t
      have mn3 := hM3.n
      have mc3 := hM3.c
      obtain ⟨z3, hz3, q3⟩ := q_gen (M := M) q3 (fun _ => rfl)
      have hM3 := mAt q3
      have mo3 := hM3.o
      have ms3 := hM3.s
      have mb3 := hM3.b
      have mt3 := hM3.t
      have mn3 := hM3.n
      have mc3 := hM3.c
      have hw : gx z3 i 7 < 0 ∨ ∃ g, g < 8 ∧ gx z3 i 7 = nI g := by rw [hz3, gx_px (by decide) (by decide) (by decide)]; exact hw
      have hs3 := hz3
      refine R_aload_n0 (pc := 126) dX10_fight_126 ?_
      refine R_iload7 (pc := 127) dX10_fight_127 ?_
      refine R_iconst (pc := 129) (v := 5) dX10_fight_129 (by decide) ?_
      refine R_iload9 (pc := 130) dX10_fight_130 ?_
      refine R_callV3 (pc := 132) (T := TX10) cal_X10_put kw930 kw932 kw30 dX10_fight_132 (c_X10_put hM3 (by assumption) (k := 5) (by decide)) (by decide) (Nat.le_of_ble_eq_true rfl) (ci := 8) rfl (by assumption) ?_
      rintro _ h4 ⟨rfl, e4⟩
      have q4 := mstep_M q3 e4
      have hM4 := mAt q4
      have mo4 := hM4.o
      have ms4 := hM4.s
      have mb4 := hM4.b
      have mt4 := hM4.t
      have mn4 := hM4.n
      have mc4 := hM4.c
      obtain ⟨z4, hz4, q4⟩ := q_gen (M := M) q4 (fun _ => rfl)
      have hM4 := mAt q4
      have mo4 := hM4.o
      have ms4 := hM4.s
      have mb4 := hM4.b
      have mt4 := hM4.t
      have mn4 := hM4.n
      have mc4 := hM4.c
      have hw : gx z4 i 7 < 0 ∨ ∃ g, g < 8 ∧ gx z4 i 7 = nI g := by rw [hz4, gx_px (by decide) (by decide) (by decide)]; exact hw
      have hs4 := hz4
      refine R_aload_n0 (pc := 135) dX10_fight_135 ?_
      refine R_iload8 (pc := 136) dX10_fight_136 ?_
      refine R_iconst (pc := 138) (v := 5) dX10_fight_138 (by decide) ?_
      refine R_aload_n0 (pc := 139) dX10_fight_139 ?_
      refine R_iload8 (pc := 140) dX10_fight_140 ?_
      refine R_iconst (pc := 142) (v := 5) dX10_fight_142 (by decide) ?_
      refine R_callV2 (pc := 143) (T := TX10) cal_X10_get kw899 kw901 kw25 dX10_fight_143 (c_X10_get hM4 (by assumption) (k := 5) (by decide)) (by decide) (Nat.le_of_ble_eq_true rfl) (ci := 8) rfl (by assumption) ?_
      rintro _ _ ⟨rfl, rfl⟩
      refine R_iload9 (pc := 146) dX10_fight_146 ?_
      refine R_isub (pc := 148) dX10_fight_148 ?_
      refine R_callV3 (pc := 149) (T := TX10) cal_X10_put kw930 kw932 kw30 dX10_fight_149 (c_X10_put hM4 (by assumption) (k := 5) (by decide)) (by decide) (Nat.le_of_ble_eq_true rfl) (ci := 8) rfl (by assumption) ?_
      rintro _ h5 ⟨rfl, e5⟩
      have q5 := mstep_M q4 e5
      have hM5 := mAt q5
      have mo5 := hM5.o
      have ms5 := hM5.s
      have mb5 := hM5.b
      have mt5 := hM5.t
      have mn5 := hM5.n
      have mc5 := hM5.c
      obtain ⟨z5, hz5, q5⟩ := q_gen (M := M) q5 (fun _ => rfl)
      have hM5 := mAt q5
      have mo5 := hM5.o
      have ms5 := hM5.s
      have mb5 := hM5.b
      have mt5 := hM5.t
      have mn5 := hM5.n
      have mc5 := hM5.c
      have hw : gx z5 i 7 < 0 ∨ ∃ g, g < 8 ∧ gx z5 i 7 = nI g := by rw [hz5, gx_px (by decide) (by decide) (by decide)]; exact hw
      have hs5 := hz5
      refine R_aload_n0 (pc := 152) dX10_fight_152 ?_
      refine G_X10_7 (pc := 153) dX10_fight_153 (by assumption) ?_
      refine R_bipush (pc := 156) (v := 11) dX10_fight_156 (by decide) ?_
      refine R_dup2 (pc := 158) dX10_fight_158 rfl rfl ?_
      refine R_iald (pc := 159) dX10_fight_159 (by assumption) (in_n (i := 11) (by decide) (by decide)) ?_
      rw [show ((11 : Int32)).toNatClampNeg = 11 from rfl]
      refine R_iconst (pc := 160) (v := 1) dX10_fight_160 (by decide) ?_
      refine R_iadd (pc := 161) dX10_fight_161 ?_
      refine R_iastF (pc := 162) dX10_fight_162 (by assumption) (in_n (i := 11) (by decide) (by decide)) (fun h6 e6 f6 => ?_)
      rw [show ((11 : Int32)).toNatClampNeg = 11 from rfl] at e6 f6
      have q6 := mstep_s q5 e6
      have hM6 := mAt q6
      have mo6 := hM6.o
      have ms6 := hM6.s
      have mb6 := hM6.b
      have mt6 := hM6.t
      have mn6 := hM6.n
      have mc6 := hM6.c
      obtain ⟨z6, hz6, q6⟩ := q_gen (M := M) q6 (fun _ => rfl)
      have hM6 := mAt q6
      have mo6 := hM6.o
      have ms6 := hM6.s
      have mb6 := hM6.b
      have mt6 := hM6.t
      have mn6 := hM6.n
      have mc6 := hM6.c
      have hw : gx z6 i 7 < 0 ∨ ∃ g, g < 8 ∧ gx z6 i 7 = nI g := by rw [hz6, gx_11]; exact hw
      have hs6 := hz6
      refine R_iload5 (pc := 163) dX10_fight_163 ?_
      refine R_if_ne (pc := 165) 173 dX10_fight_165 (by decide) (fun c0 => False.elim (by revert c0; decide)) (fun _ => ?_)
      refine R_iload6 (pc := 168) dX10_fight_168 ?_
      refine R_if_eq (pc := 170) 178 dX10_fight_170 (by decide) (fun c0 => False.elim (by revert c0; decide)) (fun _ => ?_)
      refine R_aload_n0 (pc := 173) dX10_fight_173 ?_
      refine R_iload_n1 (pc := 174) dX10_fight_174 ?_
      refine R_callV1 (pc := 175) (T := TX10) cal_X10_free kw1009 kw1011 kw43 dX10_fight_175 (c_X10_free hM6 hi hw) (by decide) (Nat.le_of_ble_eq_true rfl) (ci := 8) rfl (by assumption) ?_
      rintro _ h7 ⟨rfl, e7⟩
      have q7 := mstep_M q6 e7
      have hM7 := mAt q7
      have mo7 := hM7.o
      have ms7 := hM7.s
      have mb7 := hM7.b
      have mt7 := hM7.t
      have mn7 := hM7.n
      have mc7 := hM7.c
      refine R_vret (pc := 178) rfl dX10_fight_178 ?_
      refine ⟨rfl, ?_⟩
      have e : _ = z_cpt z2 j i := hs6.trans (by rw [hs5, hs4, hs3]; rfl)
      rw [z_fight, ← hfa, if_neg c_44, if_pos c_60, ← e]
      exact q7
  · skip
    have c_44 : gx z2 i 5 = 0 := c_44
    refine R_iconst (pc := 47) (v := 1) dX10_fight_47 (by decide) ?_
    refine R_goto (pc := 48) 52 dX10_fight_48 (by decide) ?_
    refine R_istore5 (pc := 52) dX10_fight_52 rfl (by decide) ?_
    refine R_aload_n0 (pc := 54) dX10_fight_54 ?_
    refine R_iload_n2 (pc := 55) dX10_fight_55 ?_
    refine R_iconst (pc := 56) (v := 5) dX10_fight_56 (by decide) ?_
    refine R_callV2 (pc := 57) (T := TX10) cal_X10_get kw899 kw901 kw25 dX10_fight_57 (c_X10_get hM2 (by assumption) (k := 5) (by decide)) (by decide) (Nat.le_of_ble_eq_true rfl) (ci := 8) rfl (by assumption) ?_
    rintro _ _ ⟨rfl, rfl⟩
    refine R_if_ne (pc := 60) 67 dX10_fight_60 (by decide) (fun c_60 => ?_) (fun c_60 => ?_)
    · skip
      have c_60 : ¬ gx z2 j 5 = 0 := c_60
      refine R_iconst (pc := 67) (v := 0) dX10_fight_67 (by decide) ?_
      refine R_istore6 (pc := 68) dX10_fight_68 rfl (by decide) ?_
      refine R_iload5 (pc := 70) dX10_fight_70 ?_
      refine R_iload6 (pc := 72) dX10_fight_72 ?_
      refine R_icmp_eq (pc := 74) 163 dX10_fight_74 (by decide) (fun c0 => False.elim (by revert c0; decide)) (fun _ => ?_)
      refine R_iload5 (pc := 77) dX10_fight_77 ?_
      refine R_if_eq (pc := 79) 86 dX10_fight_79 (by decide) (fun c0 => False.elim (by revert c0; decide)) (fun _ => ?_)
      refine R_iload_n1 (pc := 82) dX10_fight_82 ?_
      refine R_goto (pc := 83) 87 dX10_fight_83 (by decide) ?_
      refine R_istore7 (pc := 87) dX10_fight_87 rfl (by decide) ?_
      refine R_iload5 (pc := 89) dX10_fight_89 ?_
      refine R_if_eq (pc := 91) 98 dX10_fight_91 (by decide) (fun c0 => False.elim (by revert c0; decide)) (fun _ => ?_)
      refine R_iload_n2 (pc := 94) dX10_fight_94 ?_
      refine R_goto (pc := 95) 99 dX10_fight_95 (by decide) ?_
      refine R_istore8 (pc := 99) dX10_fight_99 rfl (by decide) ?_
      refine R_aload_n0 (pc := 101) dX10_fight_101 ?_
      refine R_iload8 (pc := 102) dX10_fight_102 ?_
      refine R_iconst (pc := 104) (v := 5) dX10_fight_104 (by decide) ?_
      refine R_callV2 (pc := 105) (T := TX10) cal_X10_get kw899 kw901 kw25 dX10_fight_105 (c_X10_get hM2 (by assumption) (k := 5) (by decide)) (by decide) (Nat.le_of_ble_eq_true rfl) (ci := 8) rfl (by assumption) ?_
      rintro _ _ ⟨rfl, rfl⟩
      refine R_iconst (pc := 108) (v := 2) dX10_fight_108 (by decide) ?_
      refine R_idiv (pc := 109) dX10_fight_109 (by decide) ?_
      refine R_istore9 (pc := 110) dX10_fight_110 rfl (by decide) ?_
      refine R_aload_n0 (pc := 112) dX10_fight_112 ?_
      refine R_iload7 (pc := 113) dX10_fight_113 ?_
      refine R_iconst (pc := 115) (v := 0) dX10_fight_115 (by decide) ?_
      refine R_aload_n0 (pc := 116) dX10_fight_116 ?_
      refine R_iload8 (pc := 117) dX10_fight_117 ?_
      refine R_iconst (pc := 119) (v := 0) dX10_fight_119 (by decide) ?_
      refine R_callV2 (pc := 120) (T := TX10) cal_X10_get kw899 kw901 kw25 dX10_fight_120 (c_X10_get hM2 (by assumption) (k := 0) (by decide)) (by decide) (Nat.le_of_ble_eq_true rfl) (ci := 8) rfl (by assumption) ?_
      rintro _ _ ⟨rfl, rfl⟩
      refine R_callV3 (pc := 123) (T := TX10) cal_X10_put kw930 kw932 kw30 dX10_fight_123 (c_X10_put hM2 (by assumption) (k := 0) (by decide)) (by decide) (Nat.le_of_ble_eq_true rfl) (ci := 8) rfl (by assumption) ?_
      rintro _ h8 ⟨rfl, e8⟩
      have q8 := mstep_M q2 e8
      have hM8 := mAt q8
      have mo8 := hM8.o
      have ms8 := hM8.s
      have mb8 := hM8.b
      have mt8 := hM8.t
      have mn8 := hM8.n
      have mc8 := hM8.c
      obtain ⟨z8, hz8, q8⟩ := q_gen (M := M) q8 (fun _ => rfl)
      have hM8 := mAt q8
      have mo8 := hM8.o
      have ms8 := hM8.s
      have mb8 := hM8.b
      have mt8 := hM8.t
      have mn8 := hM8.n
      have mc8 := hM8.c
      have hw : gx z8 i 7 < 0 ∨ ∃ g, g < 8 ∧ gx z8 i 7 = nI g := by rw [hz8, gx_px (by decide) (by decide) (by decide)]; exact hw
      have hs3 := hz8
      refine R_aload_n0 (pc := 126) dX10_fight_126 ?_
      refine R_iload7 (pc := 127) dX10_fight_127 ?_
      refine R_iconst (pc := 129) (v := 5) dX10_fight_129 (by decide) ?_
      refine R_iload9 (pc := 130) dX10_fight_130 ?_
      refine R_callV3 (pc := 132) (T := TX10) cal_X10_put kw930 kw932 kw30 dX10_fight_132 (c_X10_put hM8 (by assumption) (k := 5) (by decide)) (by decide) (Nat.le_of_ble_eq_true rfl) (ci := 8) rfl (by assumption) ?_
      rintro _ h9 ⟨rfl, e9⟩
      have q9 := mstep_M q8 e9
      have hM9 := mAt q9
      have mo9 := hM9.o
      have ms9 := hM9.s
      have mb9 := hM9.b
      have mt9 := hM9.t
      have mn9 := hM9.n
      have mc9 := hM9.c
      obtain ⟨z9, hz9, q9⟩ := q_gen (M := M) q9 (fun _ => rfl)
      have hM9 := mAt q9
      have mo9 := hM9.o
      have ms9 := hM9.s
      have mb9 := hM9.b
      have mt9 := hM9.t
      have mn9 := hM9.n
      have mc9 := hM9.c
      have hw : gx z9 i 7 < 0 ∨ ∃ g, g < 8 ∧ gx z9 i 7 = nI g := by rw [hz9, gx_px (by decide) (by decide) (by decide)]; exact hw
      have hs4 := hz9
      refine R_aload_n0 (pc := 135) dX10_fight_135 ?_
      refine R_iload8 (pc := 136) dX10_fight_136 ?_
      refine R_iconst (pc := 138) (v := 5) dX10_fight_138 (by decide) ?_
      refine R_aload_n0 (pc := 139) dX10_fight_139 ?_
      refine R_iload8 (pc := 140) dX10_fight_140 ?_
      refine R_iconst (pc := 142) (v := 5) dX10_fight_142 (by decide) ?_
      refine R_callV2 (pc := 143) (T := TX10) cal_X10_get kw899 kw901 kw25 dX10_fight_143 (c_X10_get hM9 (by assumption) (k := 5) (by decide)) (by decide) (Nat.le_of_ble_eq_true rfl) (ci := 8) rfl (by assumption) ?_
      rintro _ _ ⟨rfl, rfl⟩
      refine R_iload9 (pc := 146) dX10_fight_146 ?_
      refine R_isub (pc := 148) dX10_fight_148 ?_
      refine R_callV3 (pc := 149) (T := TX10) cal_X10_put kw930 kw932 kw30 dX10_fight_149 (c_X10_put hM9 (by assumption) (k := 5) (by decide)) (by decide) (Nat.le_of_ble_eq_true rfl) (ci := 8) rfl (by assumption) ?_
      rintro _ h10 ⟨rfl, e10⟩
      have q10 := mstep_M q9 e10
      have hM10 := mAt q10
      have mo10 := hM10.o
      have ms10 := hM10.s
      have mb10 := hM10.b
      have mt10 := hM10.t
      have mn10 := hM10.n
      have mc10 := hM10.c
      obtain ⟨z10, hz10, q10⟩ := q_gen (M := M) q10 (fun _ => rfl)
      have hM10 := mAt q10
      have mo10 := hM10.o
      have ms10 := hM10.s
      have mb10 := hM10.b
      have mt10 := hM10.t
      have mn10 := hM10.n
      have mc10 := hM10.c
      have hw : gx z10 i 7 < 0 ∨ ∃ g, g < 8 ∧ gx z10 i 7 = nI g := by rw [hz10, gx_px (by decide) (by decide) (by decide)]; exact hw
      have hs5 := hz10
      refine R_aload_n0 (pc := 152) dX10_fight_152 ?_
      refine G_X10_7 (pc := 153) dX10_fight_153 (by assumption) ?_
      refine R_bipush (pc := 156) (v := 11) dX10_fight_156 (by decide) ?_
      refine R_dup2 (pc := 158) dX10_fight_158 rfl rfl ?_
      refine R_iald (pc := 159) dX10_fight_159 (by assumption) (in_n (i := 11) (by decide) (by decide)) ?_
      rw [show ((11 : Int32)).toNatClampNeg = 11 from rfl]
      refine R_iconst (pc := 160) (v := 1) dX10_fight_160 (by decide) ?_
      refine R_iadd (pc := 161) dX10_fight_161 ?_
      refine R_iastF (pc := 162) dX10_fight_162 (by assumption) (in_n (i := 11) (by decide) (by decide)) (fun h11 e11 f11 => ?_)
      rw [show ((11 : Int32)).toNatClampNeg = 11 from rfl] at e11 f11
      have q11 := mstep_s q10 e11
      have hM11 := mAt q11
      have mo11 := hM11.o
      have ms11 := hM11.s
      have mb11 := hM11.b
      have mt11 := hM11.t
      have mn11 := hM11.n
      have mc11 := hM11.c
      obtain ⟨z11, hz11, q11⟩ := q_gen (M := M) q11 (fun _ => rfl)
      have hM11 := mAt q11
      have mo11 := hM11.o
      have ms11 := hM11.s
      have mb11 := hM11.b
      have mt11 := hM11.t
      have mn11 := hM11.n
      have mc11 := hM11.c
      have hw : gx z11 i 7 < 0 ∨ ∃ g, g < 8 ∧ gx z11 i 7 = nI g := by rw [hz11, gx_11]; exact hw
      have hs6 := hz11
      refine R_iload5 (pc := 163) dX10_fight_163 ?_
      refine R_if_ne (pc := 165) 173 dX10_fight_165 (by decide) (fun _ => ?_) (fun c0 => False.elim (by revert c0; decide))
      refine R_aload_n0 (pc := 173) dX10_fight_173 ?_
      refine R_iload_n1 (pc := 174) dX10_fight_174 ?_
      refine R_callV1 (pc := 175) (T := TX10) cal_X10_free kw1009 kw1011 kw43 dX10_fight_175 (c_X10_free hM11 hi hw) (by decide) (Nat.le_of_ble_eq_true rfl) (ci := 8) rfl (by assumption) ?_
      rintro _ h12 ⟨rfl, e12⟩
      have q12 := mstep_M q11 e12
      have hM12 := mAt q12
      have mo12 := hM12.o
      have ms12 := hM12.s
      have mb12 := hM12.b
      have mt12 := hM12.t
      have mn12 := hM12.n
      have mc12 := hM12.c
      refine R_vret (pc := 178) rfl dX10_fight_178 ?_
      refine ⟨rfl, ?_⟩
      have e : _ = z_cpt z2 i j := hs6.trans (by rw [hs5, hs4, hs3]; rfl)
      rw [z_fight, ← hfa, if_pos c_44, if_neg c_60, ← e]
      exact q12
    · skip
      have c_60 : gx z2 j 5 = 0 := c_60
      refine R_iconst (pc := 63) (v := 1) dX10_fight_63 (by decide) ?_
      refine R_goto (pc := 64) 68 dX10_fight_64 (by decide) ?_
      refine R_istore6 (pc := 68) dX10_fight_68 rfl (by decide) ?_
      refine R_iload5 (pc := 70) dX10_fight_70 ?_
      refine R_iload6 (pc := 72) dX10_fight_72 ?_
      refine R_icmp_eq (pc := 74) 163 dX10_fight_74 (by decide) (fun _ => ?_) (fun c0 => False.elim (by revert c0; decide))
      refine R_iload5 (pc := 163) dX10_fight_163 ?_
      refine R_if_ne (pc := 165) 173 dX10_fight_165 (by decide) (fun _ => ?_) (fun c0 => False.elim (by revert c0; decide))
      refine R_aload_n0 (pc := 173) dX10_fight_173 ?_
      refine R_iload_n1 (pc := 174) dX10_fight_174 ?_
      refine R_callV1 (pc := 175) (T := TX10) cal_X10_free kw1009 kw1011 kw43 dX10_fight_175 (c_X10_free hM2 hi hw) (by decide) (Nat.le_of_ble_eq_true rfl) (ci := 8) rfl (by assumption) ?_
      rintro _ h13 ⟨rfl, e13⟩
      have q13 := mstep_M q2 e13
      have hM13 := mAt q13
      have mo13 := hM13.o
      have ms13 := hM13.s
      have mb13 := hM13.b
      have mt13 := hM13.t
      have mn13 := hM13.n
      have mc13 := hM13.c
      refine R_vret (pc := 178) rfl dX10_fight_178 ?_
      refine ⟨rfl, ?_⟩
      rw [z_fight, ← hfa, if_pos c_44, if_pos c_60]
      exact q13

theorem Wok.at {s : Nat → Int32} (h : Wok s) {i : Nat} (hi : i < 8) (hl : nI i < gx s i 7) : ∃ j, j < 8 ∧ gx s i 7 = nI j := (h i hi).resolve_left (fun z => absurd (Int32.lt_trans hl z) (Int32.not_lt.mpr (nI_pos' (show i < 2 ^ 31 by omega))))
theorem c_X10_fightX {i : Nat} {y : Int32} (hM : MAt h u M) (hwk : Wok M.2.1) (hi : i < 8) (hy : ∃ j, j < 8 ∧ y = nI j) : Spec l D cA N0 m_X10_fight 2 0 0 [.ref u, .int (nI i), .int y] h (fun r h' => r = none ∧ h' = mput h u (sM M (z_fight M.2.1 i y.toNatClampNeg))) := by
  obtain ⟨j, hj, rfl⟩ := hy
  rw [nI_clamp (show j < 2 ^ 31 by omega)]
  exact c_X10_fight hM hwk hi hj
set_option maxHeartbeats 4000000 in
set_option maxRecDepth 100000 in
theorem L_X10_end {sn : Nat} (hn : sn ≤ 8) : ∀ (n i : Nat) (s : Nat → Int32) (h1 : AH), i + n = sn → Wok s → s 10 = nI sn → h1 = mput h u (sM M s) → RunM l D cA N0 m_X10_end 3 0 0 (fun r h' => r = some (.int (z_eov (zk z_e1 s i n) 0)) ∧ h' = mput h u (sM M (z_eov (zk z_e1 s i n)))) h1 0 0 18 [some (.ref u), some (.int (nI i))] [] := by
  intro n
  induction n with
  | zero =>
    intro i s h1 hi hwk hs10 q1
    have hM1 := mAt q1
    have mo1 := hM1.o
    have ms1 := hM1.s
    have mb1 := hM1.b
    have mt1 := hM1.t
    have mn1 := hM1.n
    have mc1 := hM1.c
    refine R_iload_n1 (pc := 18) dX10_end_18 ?_
    refine R_aload_n0 (pc := 19) dX10_end_19 ?_
    refine G_X10_7 (pc := 20) dX10_end_20 (by assumption) ?_
    refine R_bipush (pc := 23) (v := 10) dX10_end_23 (by decide) ?_
    refine R_iald (pc := 25) dX10_end_25 (by assumption) (in_n (i := 10) (by decide) (by decide)) ?_
    rw [show ((10 : Int32)).toNatClampNeg = 10 from rfl]
    rw [show (sM M s).2.1 10 = nI sn from hs10]
    refine R_icmp_ge (pc := 26) 66 dX10_end_26 (by decide) (fun c_26 => ?_) (fun c_26 => absurd (by rw [show i = sn by omega]; exact Int32.le_refl _) c_26)
    refine R_aload_n0 (pc := 66) dX10_end_66 ?_
    refine G_X10_7 (pc := 67) dX10_end_67 (by assumption) ?_
    refine R_iconst (pc := 70) (v := 1) dX10_end_70 (by decide) ?_
    refine R_iconst (pc := 71) (v := 0) dX10_end_71 (by decide) ?_
    refine R_iastF (pc := 72) dX10_end_72 (by assumption) (in_n (i := 1) (by decide) (by decide)) (fun h1 e1 f1 => ?_)
    rw [show ((1 : Int32)).toNatClampNeg = 1 from rfl] at e1 f1
    have q1 := mstep_s q1 e1
    have hM1 := mAt q1
    have mo1 := hM1.o
    have ms1 := hM1.s
    have mb1 := hM1.b
    have mt1 := hM1.t
    have mn1 := hM1.n
    have mc1 := hM1.c
    refine R_aload_n0 (pc := 73) dX10_end_73 ?_
    refine G_X10_7 (pc := 74) dX10_end_74 (by assumption) ?_
    refine R_iconst (pc := 77) (v := 0) dX10_end_77 (by decide) ?_
    refine R_dup2 (pc := 78) dX10_end_78 rfl rfl ?_
    refine R_iald (pc := 79) dX10_end_79 (by assumption) (in_n (i := 0) (by decide) (by decide)) ?_
    rw [show ((0 : Int32)).toNatClampNeg = 0 from rfl]
    refine R_iconst (pc := 80) (v := 1) dX10_end_80 (by decide) ?_
    refine R_iadd (pc := 81) dX10_end_81 ?_
    refine R_iastF (pc := 82) dX10_end_82 (by assumption) (in_n (i := 0) (by decide) (by decide)) (fun h2 e2 f2 => ?_)
    rw [show ((0 : Int32)).toNatClampNeg = 0 from rfl] at e2 f2
    have q2 := mstep_s q1 e2
    have hM2 := mAt q2
    have mo2 := hM2.o
    have ms2 := hM2.s
    have mb2 := hM2.b
    have mt2 := hM2.t
    have mn2 := hM2.n
    have mc2 := hM2.c
    refine R_aload_n0 (pc := 83) dX10_end_83 ?_
    refine G_X10_7 (pc := 84) dX10_end_84 (by assumption) ?_
    refine R_iconst (pc := 87) (v := 0) dX10_end_87 (by decide) ?_
    refine R_iald (pc := 88) dX10_end_88 (by assumption) (in_n (i := 0) (by decide) (by decide)) ?_
    rw [show ((0 : Int32)).toNatClampNeg = 0 from rfl]
    refine R_iret (pc := 89) rfl rfl dX10_end_89 ?_
    exact ⟨rfl, q2⟩
  | succ n ih =>
    intro i s h1 hi hwk hs10 q1
    have hM1 := mAt q1
    have mo1 := hM1.o
    have ms1 := hM1.s
    have mb1 := hM1.b
    have mt1 := hM1.t
    have mn1 := hM1.n
    have mc1 := hM1.c
    refine R_iload_n1 (pc := 18) dX10_end_18 ?_
    refine R_aload_n0 (pc := 19) dX10_end_19 ?_
    refine G_X10_7 (pc := 20) dX10_end_20 (by assumption) ?_
    refine R_bipush (pc := 23) (v := 10) dX10_end_23 (by decide) ?_
    refine R_iald (pc := 25) dX10_end_25 (by assumption) (in_n (i := 10) (by decide) (by decide)) ?_
    rw [show ((10 : Int32)).toNatClampNeg = 10 from rfl]
    rw [show (sM M s).2.1 10 = nI sn from hs10]
    refine R_icmp_ge (pc := 26) 66 dX10_end_26 (by decide) (fun c_26 => absurd c_26 (nI_ge (show i < sn by omega) (by omega))) (fun c_26 => ?_)
    refine R_aload_n0 (pc := 29) dX10_end_29 ?_
    refine R_iload_n1 (pc := 30) dX10_end_30 ?_
    refine R_bipush (pc := 31) (v := 7) dX10_end_31 (by decide) ?_
    refine R_callV2 (pc := 33) (T := TX10) cal_X10_get kw899 kw901 kw25 dX10_end_33 (c_X10_get hM1 (show i < 8 by omega) (k := 7) (by decide)) (by decide) (Nat.le_of_ble_eq_true rfl) (ci := 8) rfl (by assumption) ?_
    rintro _ _ ⟨rfl, rfl⟩
    refine R_iload_n1 (pc := 36) dX10_end_36 ?_
    refine R_icmp_le (pc := 37) 52 dX10_end_37 (by decide) (fun c_37 => ?_) (fun c_37 => ?_)
    · skip
      have d_37 := Int32.not_lt.mpr c_37
      have hlt : ¬ nI i < gx s i 7 := Int32.not_lt.mpr c_37
      refine R_aload_n0 (pc := 52) dX10_end_52 ?_
      refine R_iload_n1 (pc := 53) dX10_end_53 ?_
      refine R_bipush (pc := 54) (v := 10) dX10_end_54 (by decide) ?_
      refine R_iconst (pc := 56) (v := 0) dX10_end_56 (by decide) ?_
      refine R_callV3 (pc := 57) (T := TX10) cal_X10_put kw930 kw932 kw30 dX10_end_57 (c_X10_put hM1 (show i < 8 by omega) (k := 10) (by decide)) (by decide) (Nat.le_of_ble_eq_true rfl) (ci := 8) rfl (by assumption) ?_
      rintro _ h1 ⟨rfl, e1⟩
      have q1 := mstep_M q1 e1
      have hM1 := mAt q1
      have mo1 := hM1.o
      have ms1 := hM1.s
      have mb1 := hM1.b
      have mt1 := hM1.t
      have mn1 := hM1.n
      have mc1 := hM1.c
      refine R_iinc1 (pc := 60) dX10_end_60 rfl (by decide) ?_
      refine R_goto (pc := 63) 18 dX10_end_63 (by decide) ?_
      rw [nI_s, zk_s]
      exact ih (i + 1) _ _ (by omega) (hwk.e1 i) (by rw [z_e1_10 _ _ (by decide) (by decide)]; exact hs10) (by rw [q1, z_e1, if_neg hlt]; rfl)
    · skip
      have d_37 := Int32.not_le.mp c_37
      have hlt : nI i < gx s i 7 := Int32.not_le.mp c_37
      refine R_aload_n0 (pc := 40) dX10_end_40 ?_
      refine R_iload_n1 (pc := 41) dX10_end_41 ?_
      refine R_aload_n0 (pc := 42) dX10_end_42 ?_
      refine R_iload_n1 (pc := 43) dX10_end_43 ?_
      refine R_bipush (pc := 44) (v := 7) dX10_end_44 (by decide) ?_
      refine R_callV2 (pc := 46) (T := TX10) cal_X10_get kw899 kw901 kw25 dX10_end_46 (c_X10_get hM1 (show i < 8 by omega) (k := 7) (by decide)) (by decide) (Nat.le_of_ble_eq_true rfl) (ci := 8) rfl (by assumption) ?_
      rintro _ _ ⟨rfl, rfl⟩
      refine R_callV2 (pc := 49) (T := TX10) cal_X10_fight kw1037 kw1039 kw45 dX10_end_49 (c_X10_fightX hM1 hwk (show i < 8 by omega) (hwk.at (show i < 8 by omega) hlt)) (by decide) (Nat.le_of_ble_eq_true rfl) (ci := 8) rfl (by assumption) ?_
      rintro _ h2 ⟨rfl, e2⟩
      have q2 := mstep_M q1 e2
      have hM2 := mAt q2
      have mo2 := hM2.o
      have ms2 := hM2.s
      have mb2 := hM2.b
      have mt2 := hM2.t
      have mn2 := hM2.n
      have mc2 := hM2.c
      refine R_aload_n0 (pc := 52) dX10_end_52 ?_
      refine R_iload_n1 (pc := 53) dX10_end_53 ?_
      refine R_bipush (pc := 54) (v := 10) dX10_end_54 (by decide) ?_
      refine R_iconst (pc := 56) (v := 0) dX10_end_56 (by decide) ?_
      refine R_callV3 (pc := 57) (T := TX10) cal_X10_put kw930 kw932 kw30 dX10_end_57 (c_X10_put hM2 (show i < 8 by omega) (k := 10) (by decide)) (by decide) (Nat.le_of_ble_eq_true rfl) (ci := 8) rfl (by assumption) ?_
      rintro _ h3 ⟨rfl, e3⟩
      have q3 := mstep_M q2 e3
      have hM3 := mAt q3
      have mo3 := hM3.o
      have ms3 := hM3.s
      have mb3 := hM3.b
      have mt3 := hM3.t
      have mn3 := hM3.n
      have mc3 := hM3.c
      refine R_iinc1 (pc := 60) dX10_end_60 rfl (by decide) ?_
      refine R_goto (pc := 63) 18 dX10_end_63 (by decide) ?_
      rw [nI_s, zk_s]
      exact ih (i + 1) _ _ (by omega) (hwk.e1 i) (by rw [z_e1_10 _ _ (by decide) (by decide)]; exact hs10) (by rw [q3, z_e1, if_pos hlt]; rfl)

set_option maxHeartbeats 4000000 in
set_option maxRecDepth 100000 in
theorem c_X10_end (hM : MAt h u M) {sn : Nat} (hn : sn ≤ 8) (hsn : M.2.1 10 = nI sn) {m : Nat} (hm : m ≤ 6) (hmu : M.1 3 = nI m) (hwk : Wok M.2.1) : Spec l D cA N0 m_X10_end 3 0 0 [.ref u] h (fun r h' => r = some (.int (zw_end M sn m).1) ∧ ∃ M2, h' = mput h u M2 ∧ Ms (zw_end M sn m).2 M2) := by
  refine Spec.of (L := [some (.ref u), none]) (by decide) rfl (Nat.le_of_ble_eq_true rfl) ?_
  have q0 : h = mput h u M := (mput_self hM).symm
  have mo0 := hM.o
  have ms0 := hM.s
  have mb0 := hM.b
  have mt0 := hM.t
  have mn0 := hM.n
  have mc0 := hM.c
  refine R_aload_n0 (pc := 0) dX10_end_0 ?_
  refine G_X10_7 (pc := 1) dX10_end_1 (by assumption) ?_
  refine R_iconst (pc := 4) (v := 1) dX10_end_4 (by decide) ?_
  refine R_iald (pc := 5) dX10_end_5 (by assumption) (in_n (i := 1) (by decide) (by decide)) ?_
  rw [show ((1 : Int32)).toNatClampNeg = 1 from rfl]
  refine R_if_ne (pc := 6) 12 dX10_end_6 (by decide) (fun c_6 => ?_) (fun c_6 => ?_)
  · skip
    refine R_aload_n0 (pc := 12) dX10_end_12 ?_
    refine R_callV0 (pc := 13) (T := TX10) cal_X10_act kw903 kw905 kw26 dX10_end_13 (c_X10_act hM hm hmu) (by decide) (Nat.le_of_ble_eq_true rfl) (ci := 8) rfl (by assumption) ?_
    rintro _ h13 ⟨rfl, e13⟩
    obtain ⟨F2, b2, hact, hF2⟩ := z_act_form (M) m
    rw [hact] at e13
    have q13 : h13 = mput _ u (F2, M.2.1, b2, M.2.2.2) := mstep_M q0 e13
    have hM13 := mAt q13
    have mo13 := hM13.o
    have ms13 := hM13.s
    have mb13 := hM13.b
    have mt13 := hM13.t
    have mn13 := hM13.n
    have mc13 := hM13.c
    refine R_iconst (pc := 16) (v := 0) dX10_end_16 (by decide) ?_
    refine R_istore_n1 (pc := 17) dX10_end_17 rfl (by decide) ?_
    refine R_post (fun r h9 q9 => ?_) (L_X10_end (M := (F2, M.2.1, b2, M.2.2.2)) hn sn 0 M.2.1 _ (Nat.zero_add sn) hwk hsn q13)
    rw [zw_end, if_neg c_6]
    exact ⟨q9.1, _, q9.2, Ms.fin (s := M.2.1) (Ms.rf M) hact _⟩
  · skip
    refine R_bipush (pc := 9) (v := (-2)) dX10_end_9 (by decide) ?_
    refine R_iret (pc := 11) rfl rfl dX10_end_11 ?_
    exact ⟨by rw [zw_end, if_pos c_6], _, q0, by rw [zw_end, if_pos c_6]; exact Ms.rf M⟩

end LV35
