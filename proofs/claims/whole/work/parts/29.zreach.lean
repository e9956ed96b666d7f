/-! THE REFERENCE: way, reach, bestCard -/
theorem z_ptk_le (s : Nat → Int32) (sn i y : Nat) (mo : Int32) : ∀ n k, z_ptk s sn i y mo n k < k + n ∨ z_ptk s sn i y mo n k = 0
  | 0, _ => Or.inr rfl
  | n + 1, k => by
    rw [z_ptk_s]
    split
    · split
      · exact Or.inl (by omega)
      · have := z_ptk_le s sn i y mo n (k + 1)
        omega
    · exact Or.inr rfl
theorem z_path_le (s : Nat → Int32) (sn i y : Nat) (mo : Int32) : z_path s sn i y mo ≤ 1092 := by
  unfold z_path
  split
  · have := z_ptk_le s sn i y mo 1092 1
    omega
  · omega
theorem bp_nI {k : Nat} (h : k ≤ 1092) : nI (bp k) = 0 ↔ k = 0 := by
  have h2 := bp_lt (show k ≤ 1093 by omega)
  rw [show (0 : Int32) = nI 0 from rfl, nI_eq (by omega) (by decide)]
  exact ⟨fun z => Classical.byContradiction (fun c => bp_pos c z), fun z => by rw [z, bp_0]⟩
theorem bp_le0 {k : Nat} (h : k ≤ 1092) : nI (bp k) ≤ 0 ↔ k = 0 := by
  have h2 := bp_lt (show k ≤ 1093 by omega)
  rw [nI_le0 (by omega)]
  exact ⟨fun z => Classical.byContradiction (fun c => bp_pos c z), fun z => by rw [z, bp_0]⟩
theorem z_go_rng (s : Nat → Int32) (sn i p : Nat) : ∀ (r : Nat) (x d : Int32), (∃ k, k < 81 ∧ x = nI k) → (z_go s sn i p r x d).1 = true → ∃ k, k < 81 ∧ (z_go s sn i p r x d).2.1 = nI k
  | 0, x, d, h, _ => h
  | r + 1, x, d, h, t => by
    rw [z_go_s] at t ⊢
    split at t
    · rename_i c1
      rw [if_pos c1]
      split at t
      · exact absurd t Bool.false_ne_true
      · rename_i c2
        rw [if_neg c2]
        exact z_go_rng s sn i p r _ d (z_next_in (fun z => c2 (Or.inl z))) t
    · rename_i c1
      rw [if_neg c1]
      exact z_go_rng s sn i p r x _ h t
def zp_way (s : Nat → Int32) (sn : Nat) (x y v : Int32) : Int32 := if (0 ≤ x ∧ x < nI sn) ∧ (0 ≤ y ∧ y ≤ 80) ∧ 0 ≤ v ∧ v ≤ 2 then
  (let i := x.toNatClampNeg; let k := z_path s sn i y.toNatClampNeg (z_steps s i (s 2) (s 3)); if k = 0 then -9 else if v = 0 then nI (bp k) else if v = 1 then nI (ln k) else (zgo s sn i k).2.2) else -1
def z_cm (s : Nat → Int32) (sn i : Nat) (mo : Int32) : Nat → Nat → (Nat → Int32) → (Nat → Int32)
  | 0, _, c => c
  | n + 1, k, c => if nI (ln k) ≤ mo then z_cm s sn i mo n (k + 1) (if (zgo s sn i k).1 = true then upd c (zgo s sn i k).2.1.toNatClampNeg 1 else c) else c
theorem z_cm_s (s : Nat → Int32) (sn i : Nat) (mo : Int32) (n k : Nat) (c : Nat → Int32) : z_cm s sn i mo (n + 1) k c = if nI (ln k) ≤ mo then z_cm s sn i mo n (k + 1) (if (zgo s sn i k).1 = true then upd c (zgo s sn i k).2.1.toNatClampNeg 1 else c) else c := rfl
def z_ct (s : Nat → Int32) (i : Nat) (c : Nat → Int32) (a : Int32) (j : Nat) : Int32 := a + (if ¬ c j = 0 ∧ ¬ nI j = gx s i 1 then 1 else 0)
def zp_reach (s : Nat → Int32) (sn : Nat) (x : Int32) (c : Nat → Int32) : Int32 := if 0 ≤ x ∧ x < nI sn then kf (z_ct s x.toNatClampNeg (z_cm s sn x.toNatClampNeg (z_steps s x.toNatClampNeg (s 2) (s 3)) 1092 1 c)) 0 0 81 else -1
def z_cards (s : Nat → Int32) (sn i c y card : Nat) (a : Int32) (j : Nat) : Int32 := a + (if z_has (s (5 - c)) (nI j) = true ∧ ¬ z_path s sn i y (z_steps s i (zp_wind s (nI card) (nI j) / 10) (zp_wind s (nI card) (nI j) - zp_wind s (nI card) (nI j) / 10 * 10)) = 0 then 1 else 0)
def z_bf (s : Nat → Int32) (sn i c y j : Nat) : Int32 := if z_has (s (4 + c)) (nI j) = true then kf (z_cards s sn i c y j) 0 0 6 else 0
def zp_best (s : Nat → Int32) (sn : Nat) (x y v : Int32) : Int32 := if (0 ≤ x ∧ x < nI sn) ∧ (0 ≤ y ∧ y ≤ 80) ∧ 0 ≤ v ∧ v ≤ 1 then
  (let i := x.toNatClampNeg; let r := kq (z_bf s sn i (gx s i 0).toNatClampNeg y.toNatClampNeg) (-9) 0 0 6; if r.1 = -9 ∨ v = 0 then r.1 else r.2) else -1
section LV29
variable {l : Launch} {D : va_G} {cA : Nat → ClassId} {N0 : Nat} {h : AH} {u : Nat} {M : Mm}
set_option maxHeartbeats 4000000 in
set_option maxRecDepth 100000 in
theorem c_X10_way (hM : MAt h u M) {sn : Nat} (hn : sn ≤ 8) (hsn : M.2.1 10 = nI sn) {x y v : Int32} : Spec l D cA N0 m_X10_way 5 0 0 [.ref u, .int x, .int y, .int v] h (fun r h' => r = some (.int (zp_way M.2.1 sn x y v)) ∧ ∃ M2, h' = mput h u M2 ∧ Ms M M2) := by
  refine Spec.of (L := [some (.ref u), some (.int x), some (.int y), some (.int v), none]) (by decide) rfl (Nat.le_of_ble_eq_true rfl) ?_
  have q0 : h = mput h u M := (mput_self hM).symm
  have mo0 := hM.o
  have ms0 := hM.s
  have mb0 := hM.b
  have mt0 := hM.t
  have mn0 := hM.n
  have mc0 := hM.c
  refine R_aload_n0 (pc := 0) dX10_way_0 ?_
  refine R_iload_n1 (pc := 1) dX10_way_1 ?_
  refine R_callV1 (pc := 2) (T := TX10) cal_X10_isShip kw958 kw960 kw32 dX10_way_2 (c_X10_isShip hM hn hsn) (by decide) (Nat.le_of_ble_eq_true rfl) (ci := 8) rfl (by assumption) ?_
  rintro _ _ ⟨rfl, rfl⟩
  refine R_ifb_eq (pc := 5) 27 dX10_way_5 (by decide) (fun c_5 => ?_) (fun c_5 => ?_)
  · skip
    refine R_iconst (pc := 27) (v := (-1)) dX10_way_27 (by decide) ?_
    refine R_iret (pc := 28) rfl rfl dX10_way_28 ?_
    exact ⟨by rw [zp_way, if_neg (fun z => c_5 z.1)], _, q0, Ms.rf M⟩
  · skip
    obtain ⟨i, hsi, ei⟩ := i_nI c_5.1 c_5.2 (by omega)
    have hi : i < 8 := by omega
    have hci : (nI i).toNatClampNeg = i := nI_clamp (by omega)
    subst ei
    refine R_iload_n2 (pc := 8) dX10_way_8 ?_
    refine R_callS1 (pc := 9) cal_X10_isHex kw888 kw889 dX10_way_9 c_X10_isHex (by decide) (Nat.le_of_ble_eq_true rfl) ?_
    rintro _ _ ⟨rfl, rfl⟩
    refine R_ifb_eq (pc := 12) 27 dX10_way_12 (by decide) (fun c_12 => ?_) (fun c_12 => ?_)
    · skip
      refine R_iconst (pc := 27) (v := (-1)) dX10_way_27 (by decide) ?_
      refine R_iret (pc := 28) rfl rfl dX10_way_28 ?_
      exact ⟨by rw [zp_way, if_neg (fun z => c_12 z.2.1)], _, q0, Ms.rf M⟩
    · skip
      obtain ⟨y2, hy, ey⟩ := ge0 (n := 80) c_12.1 (by decide) c_12.2
      have hcy : (nI y2).toNatClampNeg = y2 := nI_clamp (by omega)
      subst ey
      refine R_iload_n3 (pc := 15) dX10_way_15 ?_
      refine R_i2l (pc := 16) dX10_way_16 ?_
      refine R_lconst (pc := 17) (v := 0) dX10_way_17 (by decide) ?_
      refine R_ldc2 (pc := 18) dX10_way_18 kw1028 ?_
      refine R_callS3 (pc := 21) cal_X10_in kw892 kw893 dX10_way_21 (c_X10_in rfl (lo := 0) (by decide) (hi := 2) (by decide)) (by decide) (Nat.le_of_ble_eq_true rfl) ?_
      rintro _ _ ⟨rfl, rfl⟩
      refine R_ifb_ne (pc := 24) 29 dX10_way_24 (by decide) (fun c_24 => ?_) (fun c_24 => ?_)
      · skip
        refine R_aload_n0 (pc := 29) dX10_way_29 ?_
        refine R_iload_n1 (pc := 30) dX10_way_30 ?_
        refine R_iload_n2 (pc := 31) dX10_way_31 ?_
        refine R_aload_n0 (pc := 32) dX10_way_32 ?_
        refine R_iload_n1 (pc := 33) dX10_way_33 ?_
        refine R_callV1 (pc := 34) (T := TX10) cal_X10_stepsNow kw966 kw968 kw34 dX10_way_34 (c_X10_stepsNow hM (by assumption)) (by decide) (Nat.le_of_ble_eq_true rfl) (ci := 8) rfl (by assumption) ?_
        rintro _ _ ⟨rfl, rfl⟩
        refine R_callV3 (pc := 37) (T := TX10) cal_X10_pathTo kw1138 kw1140 kw53 dX10_way_37 (c_X10_pathTo hM hn hsn hi) (by decide) (Nat.le_of_ble_eq_true rfl) (ci := 8) rfl (by assumption) ?_
        rintro _ h37 ⟨X, Y, rfl, hz, e37⟩
        have q37 := mstep_M q0 e37
        have hM37 := mAt q37
        have mo37 := hM37.o
        have ms37 := hM37.s
        have mb37 := hM37.b
        have mt37 := hM37.t
        have mn37 := hM37.n
        have mc37 := hM37.c
        refine R_istore4 (pc := 40) dX10_way_40 rfl (by decide) ?_
        refine R_iload4 (pc := 42) dX10_way_42 ?_
        refine R_if_ne (pc := 44) 50 dX10_way_44 (by decide) (fun c_44 => ?_) (fun c_44 => ?_)
        · skip
          have hk0 : ¬ (z_path M.2.1 sn i y2 (z_steps M.2.1 i (M.2.1 2) (M.2.1 3))) = 0 := fun z => c_44 ((bp_nI (z_path_le _ _ _ _ _)).mpr z)
          refine R_iload_n3 (pc := 50) dX10_way_50 ?_
          refine R_if_ne (pc := 51) 59 dX10_way_51 (by decide) (fun c_51 => ?_) (fun c_51 => ?_)
          · skip
            refine R_iload_n3 (pc := 59) dX10_way_59 ?_
            refine R_iconst (pc := 60) (v := 1) dX10_way_60 (by decide) ?_
            refine R_icmp_ne (pc := 61) 72 dX10_way_61 (by decide) (fun c_61 => ?_) (fun c_61 => ?_)
            · skip
              refine R_aload_n0 (pc := 72) dX10_way_72 ?_
              refine G_X10_107 (pc := 73) dX10_way_73 (by assumption) ?_
              refine R_iret (pc := 76) rfl rfl dX10_way_76 ?_
              refine ⟨?_, _, q37, Ms.gM _ _ _⟩
              simp only [zp_way]
              rw [if_pos ⟨c_5, c_12, c_24⟩, hci, hcy, if_neg hk0, if_neg c_51, if_neg c_61]
              rw [show (gM M X Y).1 8 = Y from rfl, hz hk0]
              
            · skip
              refine R_iload4 (pc := 64) dX10_way_64 ?_
              refine R_callS1 (pc := 66) cal_X10_sizeOf kw954 kw955 dX10_way_66 c_X10_sizeOf (by decide) (Nat.le_of_ble_eq_true rfl) ?_
              rintro _ _ ⟨rfl, rfl⟩
              refine R_goto (pc := 69) 76 dX10_way_69 (by decide) ?_
              refine R_iret (pc := 76) rfl rfl dX10_way_76 ?_
              refine ⟨?_, _, q37, Ms.gM _ _ _⟩
              simp only [zp_way]
              rw [if_pos ⟨c_5, c_12, c_24⟩, hci, hcy, if_neg hk0, if_neg c_51, if_pos c_61]
              rw [sz_bp (z_path_le _ _ _ _ _)]
              
          · skip
            refine R_iload4 (pc := 54) dX10_way_54 ?_
            refine R_goto (pc := 56) 76 dX10_way_56 (by decide) ?_
            refine R_iret (pc := 76) rfl rfl dX10_way_76 ?_
            refine ⟨?_, _, q37, Ms.gM _ _ _⟩
            simp only [zp_way]
            rw [if_pos ⟨c_5, c_12, c_24⟩, hci, hcy, if_neg hk0, if_pos c_51]
        · skip
          have hk0 : (z_path M.2.1 sn i y2 (z_steps M.2.1 i (M.2.1 2) (M.2.1 3))) = 0 := (bp_nI (z_path_le _ _ _ _ _)).mp c_44
          refine R_bipush (pc := 47) (v := (-9)) dX10_way_47 (by decide) ?_
          refine R_iret (pc := 49) rfl rfl dX10_way_49 ?_
          refine ⟨?_, _, q37, Ms.gM _ _ _⟩
          simp only [zp_way]
          rw [if_pos ⟨c_5, c_12, c_24⟩, hci, hcy, if_pos hk0]
      · skip
        refine R_iconst (pc := 27) (v := (-1)) dX10_way_27 (by decide) ?_
        refine R_iret (pc := 28) rfl rfl dX10_way_28 ?_
        exact ⟨by rw [zp_way, if_neg (fun z => c_24 z.2.2)], _, q0, Ms.rf M⟩

set_option maxHeartbeats 4000000 in
set_option maxRecDepth 100000 in
theorem L_X10_reach3 (hM : MAt h u M) {e : Nat} (he : e < 8) {x d st : Int32} {c : Nat → Int32} {h1 : AH} (q1 : h1 = mput h u (cM (gM M x d) c)) : ∀ (n i : Nat) (a : Int32), i + n = 81 → RunM l D cA N0 m_X10_reach 4 0 0 (fun r h' => r = some (.int (kf (z_ct M.2.1 e c) a i n)) ∧ ∃ M2, h' = mput h u M2 ∧ Ms M M2) h1 0 0 90 [some (.ref u), some (.int (nI e)), some (.int st), some (.int a), some (.int (nI i))] [] := by
  intro n
  induction n with
  | zero =>
    intro i a hi
    have hM1 := mAt q1
    have mo1 := hM1.o
    have ms1 := hM1.s
    have mb1 := hM1.b
    have mt1 := hM1.t
    have mn1 := hM1.n
    have mc1 := hM1.c
    refine R_iload4 (pc := 90) dX10_reach_90 ?_
    refine R_bipush (pc := 92) (v := 81) dX10_reach_92 (by decide) ?_
    refine R_icmp_ge (pc := 94) 132 dX10_reach_94 (by decide) (fun c_94 => ?_) (fun c_94 => absurd (by rw [show i = 81 by omega]; decide) c_94)
    refine R_iload_n3 (pc := 132) dX10_reach_132 ?_
    refine R_iret (pc := 133) rfl rfl dX10_reach_133 ?_
    exact ⟨rfl, _, q1, Ms.gM M x d⟩
  | succ n ih =>
    intro i a hi
    have hM1 := mAt q1
    have mo1 := hM1.o
    have ms1 := hM1.s
    have mb1 := hM1.b
    have mt1 := hM1.t
    have mn1 := hM1.n
    have mc1 := hM1.c
    refine R_iload4 (pc := 90) dX10_reach_90 ?_
    refine R_bipush (pc := 92) (v := 81) dX10_reach_92 (by decide) ?_
    refine R_icmp_ge (pc := 94) 132 dX10_reach_94 (by decide) (fun c_94 => absurd c_94 (nI_ge (show i < 81 by omega) (by decide))) (fun c_94 => ?_)
    refine R_iload_n3 (pc := 97) dX10_reach_97 ?_
    refine R_aload_n0 (pc := 98) dX10_reach_98 ?_
    refine G_X10_25 (pc := 99) dX10_reach_99 (by assumption) ?_
    refine R_iload4 (pc := 102) dX10_reach_102 ?_
    refine R_zald (pc := 104) dX10_reach_104 (by assumption) (in_n (show i < 81 by omega) (by decide)) ?_
    rw [nI_clamp (show i < 2 ^ 31 by omega), show (cM (gM M x d) c).2.2.2.2.2 i = c i from rfl]
    refine R_if_eq (pc := 105) 123 dX10_reach_105 (by decide) (fun c_105 => ?_) (fun c_105 => ?_)
    · skip
      refine R_iconst (pc := 123) (v := 0) dX10_reach_123 (by decide) ?_
      refine R_iadd (pc := 124) dX10_reach_124 ?_
      refine R_istore_n3 (pc := 125) dX10_reach_125 rfl (by decide) ?_
      refine R_iinc4 (pc := 126) dX10_reach_126 rfl (by decide) ?_
      refine R_goto (pc := 129) 90 dX10_reach_129 (by decide) ?_
      rw [nI_s, kf_s]
      have hif : z_ct M.2.1 e c a i = a + 0 := by rw [z_ct, if_neg (fun z => z.1 c_105)]
      rw [hif]
      exact ih (i + 1) _ (by omega)
    · skip
      refine R_iload4 (pc := 108) dX10_reach_108 ?_
      refine R_aload_n0 (pc := 110) dX10_reach_110 ?_
      refine R_iload_n1 (pc := 111) dX10_reach_111 ?_
      refine R_iconst (pc := 112) (v := 1) dX10_reach_112 (by decide) ?_
      refine R_callV2 (pc := 113) (T := TX10) cal_X10_get kw899 kw901 kw25 dX10_reach_113 (c_X10_get hM1 he (k := 1) (by decide)) (by decide) (Nat.le_of_ble_eq_true rfl) (ci := 8) rfl (by assumption) ?_
      rintro _ _ ⟨rfl, rfl⟩
      refine R_icmp_eq (pc := 116) 123 dX10_reach_116 (by decide) (fun c_116 => ?_) (fun c_116 => ?_)
      · skip
        refine R_iconst (pc := 123) (v := 0) dX10_reach_123 (by decide) ?_
        refine R_iadd (pc := 124) dX10_reach_124 ?_
        refine R_istore_n3 (pc := 125) dX10_reach_125 rfl (by decide) ?_
        refine R_iinc4 (pc := 126) dX10_reach_126 rfl (by decide) ?_
        refine R_goto (pc := 129) 90 dX10_reach_129 (by decide) ?_
        rw [nI_s, kf_s]
        have hif : z_ct M.2.1 e c a i = a + 0 := by rw [z_ct, if_neg (fun z => z.2 c_116)]
        rw [hif]
        exact ih (i + 1) _ (by omega)
      · skip
        refine R_iconst (pc := 119) (v := 1) dX10_reach_119 (by decide) ?_
        refine R_goto (pc := 120) 124 dX10_reach_120 (by decide) ?_
        refine R_iadd (pc := 124) dX10_reach_124 ?_
        refine R_istore_n3 (pc := 125) dX10_reach_125 rfl (by decide) ?_
        refine R_iinc4 (pc := 126) dX10_reach_126 rfl (by decide) ?_
        refine R_goto (pc := 129) 90 dX10_reach_129 (by decide) ?_
        rw [nI_s, kf_s]
        have hif : z_ct M.2.1 e c a i = a + 1 := by rw [z_ct, if_pos ⟨c_105, c_116⟩]
        rw [hif]
        exact ih (i + 1) _ (by omega)

set_option maxHeartbeats 4000000 in
set_option maxRecDepth 100000 in
theorem L_X10_reach2 (hM : MAt h u M) {sn : Nat} (hn : sn ≤ 8) (hsn : M.2.1 10 = nI sn) {e : Nat} (he : e < 8) {mo : Int32} (hx : 0 < mo → ∃ g, g < 81 ∧ gx M.2.1 e 1 = nI g) : ∀ (n k : Nat) (x d : Int32) (c : Nat → Int32) (h1 : AH), k + n = 1093 → 1 ≤ k → h1 = mput h u (cM (gM M x d) c) → RunM l D cA N0 m_X10_reach 4 0 0 (fun r h' => r = some (.int (kf (z_ct M.2.1 e (z_cm M.2.1 sn e mo n k c)) 0 0 81)) ∧ ∃ M2, h' = mput h u M2 ∧ Ms M M2) h1 0 0 39 [some (.ref u), some (.int (nI e)), some (.int mo), some (.int (nI (bp k))), none] [] := by
  intro n
  induction n with
  | zero =>
    intro k x d c h1 hk h1k q1
    have hM1 := mAt q1
    have mo1 := hM1.o
    have ms1 := hM1.s
    have mb1 := hM1.b
    have mt1 := hM1.t
    have mn1 := hM1.n
    have mc1 := hM1.c
    refine R_iload_n3 (pc := 39) dX10_reach_39 ?_
    refine R_callS1 (pc := 40) cal_X10_sizeOf kw954 kw955 dX10_reach_40 c_X10_sizeOf (by decide) (Nat.le_of_ble_eq_true rfl) ?_
    rintro _ _ ⟨rfl, rfl⟩
    rw [show k = 1093 by omega, sz_end]
    refine R_if_le (pc := 43) 85 dX10_reach_43 (by decide) (fun c_43 => ?_) (fun c_43 => absurd (by decide) c_43)
    refine R_iconst (pc := 85) (v := 0) dX10_reach_85 (by decide) ?_
    refine R_istore_n3 (pc := 86) dX10_reach_86 rfl (by decide) ?_
    refine R_iconst (pc := 87) (v := 0) dX10_reach_87 (by decide) ?_
    refine R_istore4 (pc := 88) dX10_reach_88 rfl (by decide) ?_
    exact L_X10_reach3 hM he q1 81 0 _ (Nat.zero_add 81)
  | succ n ih =>
    intro k x d c h1 hk h1k q1
    have hM1 := mAt q1
    have mo1 := hM1.o
    have ms1 := hM1.s
    have mb1 := hM1.b
    have mt1 := hM1.t
    have mn1 := hM1.n
    have mc1 := hM1.c
    have hk2 : k ≤ 1092 := by omega
    have hb2 := bp_lt (show k ≤ 1093 by omega)
    have hl2 := ln_6 hk2
    refine R_iload_n3 (pc := 39) dX10_reach_39 ?_
    refine R_callS1 (pc := 40) cal_X10_sizeOf kw954 kw955 dX10_reach_40 c_X10_sizeOf (by decide) (Nat.le_of_ble_eq_true rfl) ?_
    rintro _ _ ⟨rfl, rfl⟩
    rw [sz_bp hk2]
    refine R_if_le (pc := 43) 85 dX10_reach_43 (by decide) (fun c_43 => absurd c_43 (fun z => absurd (show nI (ln k) ≤ nI 0 from z) (nI_nle (show 0 < ln k from ln_pos (by omega)) (by omega)))) (fun c_43 => ?_)
    refine R_iload_n3 (pc := 46) dX10_reach_46 ?_
    refine R_callS1 (pc := 47) cal_X10_sizeOf kw954 kw955 dX10_reach_47 c_X10_sizeOf (by decide) (Nat.le_of_ble_eq_true rfl) ?_
    rintro _ _ ⟨rfl, rfl⟩
    rw [sz_bp hk2]
    refine R_iload_n2 (pc := 50) dX10_reach_50 ?_
    refine R_icmp_gt (pc := 51) 85 dX10_reach_51 (by decide) (fun c_51 => ?_) (fun c_51 => ?_)
    · skip
      have d_51 := Int32.not_le.mpr c_51
      have hle : ¬ nI (ln k) ≤ mo := fun z => Int32.not_le.mpr c_51 z
      refine R_iconst (pc := 85) (v := 0) dX10_reach_85 (by decide) ?_
      refine R_istore_n3 (pc := 86) dX10_reach_86 rfl (by decide) ?_
      refine R_iconst (pc := 87) (v := 0) dX10_reach_87 (by decide) ?_
      refine R_istore4 (pc := 88) dX10_reach_88 rfl (by decide) ?_
      rw [z_cm_s, if_neg hle]
      exact L_X10_reach3 hM he q1 81 0 _ (Nat.zero_add 81)
    · skip
      have d_51 := Int32.not_lt.mp c_51
      have hle : nI (ln k) ≤ mo := d_51
      refine R_aload_n0 (pc := 54) dX10_reach_54 ?_
      refine R_iload_n1 (pc := 55) dX10_reach_55 ?_
      refine R_iload_n3 (pc := 56) dX10_reach_56 ?_
      refine R_iload_n3 (pc := 57) dX10_reach_57 ?_
      refine R_callS1 (pc := 58) cal_X10_sizeOf kw954 kw955 dX10_reach_58 c_X10_sizeOf (by decide) (Nat.le_of_ble_eq_true rfl) ?_
      rintro _ _ ⟨rfl, rfl⟩
      rw [sz_bp hk2]
      refine R_callV3 (pc := 61) (T := TX10) cal_X10_goes kw974 kw976 kw36 dX10_reach_61 (c_X10_goes hM1 hn hsn he (by omega) (by omega) (ln_pos (by omega))) (by decide) (Nat.le_of_ble_eq_true rfl) (ci := 8) rfl (by assumption) ?_
      rintro _ h61 ⟨rfl, e61⟩
      have q61 : h61 = mput h u (cM (gM M (zgo M.2.1 sn e k).2.1 (zgo M.2.1 sn e k).2.2) c) := (mstep_M q1 e61).trans (congrArg (fun z => mput h u (cM z c)) (gM_gM M x d _ _))
      have hM61 := mAt q61
      have mo61 := hM61.o
      have ms61 := hM61.s
      have mb61 := hM61.b
      have mt61 := hM61.t
      have mn61 := hM61.n
      have mc61 := hM61.c
      refine R_ifb_eq (pc := 64) 77 dX10_reach_64 (by decide) (fun c_64 => ?_) (fun c_64 => ?_)
      · skip
        have c_64 : ¬ (zgo M.2.1 sn e k).1 = true := c_64
        refine R_iload_n3 (pc := 77) dX10_reach_77 ?_
        refine R_callS1 (pc := 78) cal_X10_pathBehind kw1142 kw1143 dX10_reach_78 (c_X10_pathBehind (by omega)) (by decide) (Nat.le_of_ble_eq_true rfl) ?_
        rintro _ _ ⟨rfl, rfl⟩
        rw [zpb_bp, Nat.mul_one, Nat.add_zero]
        refine R_istore_n3 (pc := 81) dX10_reach_81 rfl (by decide) ?_
        refine R_goto (pc := 82) 39 dX10_reach_82 (by decide) ?_
        rw [z_cm_s, if_pos hle, if_neg c_64]
        exact ih (k + 1) _ _ _ _ (by omega) (by omega) q61
      · skip
        have c_64 : (zgo M.2.1 sn e k).1 = true := c_64
        obtain ⟨g, hg, eg⟩ := z_go_rng _ _ _ _ _ _ _ (hx (Int32.lt_of_lt_of_le (show nI 0 < nI (ln k) from nI_lt (ln_pos (by omega)) (by omega)) hle)) c_64
        have eg : (zgo M.2.1 sn e k).2.1 = nI g := eg
        refine R_aload_n0 (pc := 67) dX10_reach_67 ?_
        refine G_X10_25 (pc := 68) dX10_reach_68 (by assumption) ?_
        refine R_aload_n0 (pc := 71) dX10_reach_71 ?_
        refine G_X10_104 (pc := 72) dX10_reach_72 (by assumption) ?_
        rw [show (cM (gM M (zgo M.2.1 sn e k).2.1 (zgo M.2.1 sn e k).2.2) c).1 7 = (zgo M.2.1 sn e k).2.1 from rfl]
        refine R_iconst (pc := 75) (v := 1) dX10_reach_75 (by decide) ?_
        refine R_zastF (pc := 76) dX10_reach_76 (by assumption) (by rw [eg]; exact in_n hg (by decide)) (fun h1 e1 f1 => ?_)
        have q1 := mstep_c q61 e1
        have hM1 := mAt q1
        have mo1 := hM1.o
        have ms1 := hM1.s
        have mb1 := hM1.b
        have mt1 := hM1.t
        have mn1 := hM1.n
        have mc1 := hM1.c
        refine R_iload_n3 (pc := 77) dX10_reach_77 ?_
        refine R_callS1 (pc := 78) cal_X10_pathBehind kw1142 kw1143 dX10_reach_78 (c_X10_pathBehind (by omega)) (by decide) (Nat.le_of_ble_eq_true rfl) ?_
        rintro _ _ ⟨rfl, rfl⟩
        rw [zpb_bp, Nat.mul_one, Nat.add_zero]
        refine R_istore_n3 (pc := 81) dX10_reach_81 rfl (by decide) ?_
        refine R_goto (pc := 82) 39 dX10_reach_82 (by decide) ?_
        rw [z_cm_s, if_pos hle, if_pos c_64]
        exact ih (k + 1) _ _ _ _ (by omega) (by omega) q1

def z_c0 (c : Nat → Int32) (i : Nat) : Nat → Int32 := fun j => if j < i then 0 else c j
theorem z_c0_0 (c : Nat → Int32) : z_c0 c 0 = c := by funext j; exact if_neg (Nat.not_lt_zero j)
theorem z_c0_s (c : Nat → Int32) (i : Nat) : upd (z_c0 c i) i 0 = z_c0 c (i + 1) := by
  funext j
  simp only [upd, z_c0]
  by_cases h : j = i
  · rw [if_pos h, if_pos (by omega)]
  · rw [if_neg h]
    by_cases h2 : j < i
    · rw [if_pos h2, if_pos (by omega)]
    · rw [if_neg h2, if_neg (by omega)]
set_option maxHeartbeats 4000000 in
set_option maxRecDepth 100000 in
theorem L_X10_reach1 (hM : MAt h u M) {sn : Nat} (hn : sn ≤ 8) (hsn : M.2.1 10 = nI sn) {e : Nat} (he : e < 8) (hx : 0 < z_steps M.2.1 e (M.2.1 2) (M.2.1 3) → ∃ g, g < 81 ∧ gx M.2.1 e 1 = nI g) : ∀ (n i : Nat) (h1 : AH), i + n = 81 → h1 = mput h u (cM M (z_c0 M.2.2.2.2.2 i)) → RunM l D cA N0 m_X10_reach 4 0 0 (fun r h' => r = some (.int (kf (z_ct M.2.1 e (z_cm M.2.1 sn e (z_steps M.2.1 e (M.2.1 2) (M.2.1 3)) 1092 1 (z_c0 M.2.2.2.2.2 81))) 0 0 81)) ∧ ∃ M2, h' = mput h u M2 ∧ Ms M M2) h1 0 0 12 [some (.ref u), some (.int (nI e)), some (.int (nI i)), none, none] [] := by
  intro n
  induction n with
  | zero =>
    intro i h1 hi q1
    have hM1 := mAt q1
    have mo1 := hM1.o
    have ms1 := hM1.s
    have mb1 := hM1.b
    have mt1 := hM1.t
    have mn1 := hM1.n
    have mc1 := hM1.c
    refine R_iload_n2 (pc := 12) dX10_reach_12 ?_
    refine R_bipush (pc := 13) (v := 81) dX10_reach_13 (by decide) ?_
    refine R_icmp_ge (pc := 15) 31 dX10_reach_15 (by decide) (fun c_15 => ?_) (fun c_15 => absurd (by rw [show i = 81 by omega]; decide) c_15)
    refine R_aload_n0 (pc := 31) dX10_reach_31 ?_
    refine R_iload_n1 (pc := 32) dX10_reach_32 ?_
    refine R_callV1 (pc := 33) (T := TX10) cal_X10_stepsNow kw966 kw968 kw34 dX10_reach_33 (c_X10_stepsNow hM1 he) (by decide) (Nat.le_of_ble_eq_true rfl) (ci := 8) rfl (by assumption) ?_
    rintro _ _ ⟨rfl, rfl⟩
    refine R_istore_n2 (pc := 36) dX10_reach_36 rfl (by decide) ?_
    refine R_iconst (pc := 37) (v := 1) dX10_reach_37 (by decide) ?_
    refine R_istore_n3 (pc := 38) dX10_reach_38 rfl (by decide) ?_
    rw [show i = 81 by omega] at q1
    refine Run.cast (L_X10_reach2 hM hn hsn he (mo := z_steps M.2.1 e (M.2.1 2) (M.2.1 3)) hx 1092 1 (M.1 7) (M.1 8) (z_c0 M.2.2.2.2.2 81) _ rfl (by decide) ?_) rfl rfl rfl rfl ?_ rfl
    · rw [q1]
      refine congrArg (fun z => mput h u (cM z _)) ?_
      show M = (upd (upd M.1 7 (M.1 7)) 8 (M.1 8), M.2)
      rw [upd_id, upd_id]
    · rw [show bp 1 = 1 from by rw [bp_s (by decide), show (1 - 1) / 3 = 0 from rfl, bp_0]]
      rfl
  | succ n ih =>
    intro i h1 hi q1
    have hM1 := mAt q1
    have mo1 := hM1.o
    have ms1 := hM1.s
    have mb1 := hM1.b
    have mt1 := hM1.t
    have mn1 := hM1.n
    have mc1 := hM1.c
    refine R_iload_n2 (pc := 12) dX10_reach_12 ?_
    refine R_bipush (pc := 13) (v := 81) dX10_reach_13 (by decide) ?_
    refine R_icmp_ge (pc := 15) 31 dX10_reach_15 (by decide) (fun c_15 => absurd c_15 (nI_ge (show i < 81 by omega) (by decide))) (fun c_15 => ?_)
    refine R_aload_n0 (pc := 18) dX10_reach_18 ?_
    refine G_X10_25 (pc := 19) dX10_reach_19 (by assumption) ?_
    refine R_iload_n2 (pc := 22) dX10_reach_22 ?_
    refine R_iconst (pc := 23) (v := 0) dX10_reach_23 (by decide) ?_
    refine R_zastF (pc := 24) dX10_reach_24 (by assumption) (in_n (show i < 81 by omega) (by decide)) (fun h1 e1 f1 => ?_)
    rw [nI_clamp (show i < 2 ^ 31 by omega)] at e1 f1
    have q1 := mstep_c q1 e1
    have hM1 := mAt q1
    have mo1 := hM1.o
    have ms1 := hM1.s
    have mb1 := hM1.b
    have mt1 := hM1.t
    have mn1 := hM1.n
    have mc1 := hM1.c
    refine R_iinc2 (pc := 25) dX10_reach_25 rfl (by decide) ?_
    refine R_goto (pc := 28) 12 dX10_reach_28 (by decide) ?_
    rw [nI_s]
    exact ih (i + 1) _ (by omega) (by rw [q1]; exact congrArg (fun z => mput h u (cM M z)) (z_c0_s _ _))

set_option maxHeartbeats 4000000 in
set_option maxRecDepth 100000 in
theorem c_X10_reach (hM : MAt h u M) {sn : Nat} (hn : sn ≤ 8) (hsn : M.2.1 10 = nI sn) {x : Int32} (hx : ∀ e, e < sn → 0 ≤ gx M.2.1 e 1 → ∃ g, g < 81 ∧ gx M.2.1 e 1 = nI g) : Spec l D cA N0 m_X10_reach 4 0 0 [.ref u, .int x] h (fun r h' => (∃ c : Nat → Int32, (∀ j, j < 81 → c j = 0) ∧ r = some (.int (zp_reach M.2.1 sn x c))) ∧ ∃ M2, h' = mput h u M2 ∧ Ms M M2) := by
  refine Spec.of (L := [some (.ref u), some (.int x), none, none, none]) (by decide) rfl (Nat.le_of_ble_eq_true rfl) ?_
  have q0 : h = mput h u M := (mput_self hM).symm
  have mo0 := hM.o
  have ms0 := hM.s
  have mb0 := hM.b
  have mt0 := hM.t
  have mn0 := hM.n
  have mc0 := hM.c
  refine R_aload_n0 (pc := 0) dX10_reach_0 ?_
  refine R_iload_n1 (pc := 1) dX10_reach_1 ?_
  refine R_callV1 (pc := 2) (T := TX10) cal_X10_isShip kw958 kw960 kw32 dX10_reach_2 (c_X10_isShip hM hn hsn) (by decide) (Nat.le_of_ble_eq_true rfl) (ci := 8) rfl (by assumption) ?_
  rintro _ _ ⟨rfl, rfl⟩
  refine R_ifb_ne (pc := 5) 10 dX10_reach_5 (by decide) (fun c_5 => ?_) (fun c_5 => ?_)
  · skip
    obtain ⟨i, hsi, ei⟩ := i_nI c_5.1 c_5.2 (by omega)
    have hi : i < 8 := by omega
    have hci : (nI i).toNatClampNeg = i := nI_clamp (by omega)
    subst ei
    refine R_iconst (pc := 10) (v := 0) dX10_reach_10 (by decide) ?_
    refine R_istore_n2 (pc := 11) dX10_reach_11 rfl (by decide) ?_
    have hx2 : 0 < z_steps M.2.1 i (M.2.1 2) (M.2.1 3) → ∃ g, g < 81 ∧ gx M.2.1 i 1 = nI g := fun z => by
      unfold z_steps at z
      split at z
      · rename_i z2; exact hx i hsi z2.1
      · exact absurd z (by decide)
    refine R_post (fun r h9 q9 => ?_) (L_X10_reach1 hM hn hsn hi hx2 81 0 _ (Nat.zero_add 81) (by rw [z_c0_0]; exact q0))
    exact ⟨⟨z_c0 M.2.2.2.2.2 81, fun j hj => if_pos hj, by rw [zp_reach, if_pos c_5, hci]; exact q9.1⟩, q9.2⟩
  · skip
    refine R_iconst (pc := 8) (v := (-1)) dX10_reach_8 (by decide) ?_
    refine R_iret (pc := 9) rfl rfl dX10_reach_9 ?_
    exact ⟨⟨fun _ => 0, fun _ _ => rfl, by rw [zp_reach, if_neg c_5]⟩, _, q0, Ms.rf M⟩

end LV29
