/-! THE REFERENCE: its writing methods -/
theorem z_act_form (M : Mm) (m : Nat) : ∃ F2 b2, z_act M m = (F2, M.2.1, b2, M.2.2.2) ∧ ∀ k, k ≠ 3 → F2 k = M.1 k := by
  have hB : ∀ (M : Mm) (m : Nat), ∃ F2 b2, z_recB M m = (F2, M.2.1, b2, M.2.2.2) ∧ ∀ k, k ≠ 3 → F2 k = M.1 k := fun M m => ⟨_, _, rfl, fun k hk => if_neg hk⟩
  unfold z_act
  split
  · unfold z_rec
    split
    · obtain ⟨F2, b2, e, hk⟩ := hB (fM (bM M (z_sh M.2.2.1 2725)) 3 (nI 5)) 5
      exact ⟨F2, b2, e, fun k h => (hk k h).trans (if_neg h)⟩
    · exact hB M m
  · exact ⟨_, _, rfl, fun _ _ => rfl⟩
theorem Ms.act {M M2 : Mm} (h : Ms M M2) (m : Nat) : Ms (z_act M m) (z_act M2 m) := by
  obtain ⟨F, s, b, t, nu, co⟩ := M
  obtain ⟨F2, s2, b2, t2, nu2, co2⟩ := M2
  obtain ⟨e1, e2, e3, e4, e5, e6⟩ := h
  simp only at e1 e2 e3 e4 e5 e6
  subst e1 e2 e3
  unfold z_act z_rec
  simp only [e6]
  split
  · split <;> exact ⟨rfl, rfl, rfl, rfl, e5, e6⟩
  · exact ⟨rfl, rfl, rfl, e4, e5, e6⟩
theorem Ms.fin {M M2 : Mm} (h : Ms M M2) {m : Nat} {F2 b2 s : Nat → Int32} {r : (Nat → Int32) × (Nat → Int32) × (Nat → Int32)} (e : z_act M2 m = (F2, M2.2.1, b2, r)) (s2 : Nat → Int32) : Ms (sM (z_act M m) s2) (F2, s2, b2, r) := by
  have q := h.act m
  rw [e] at q
  exact ⟨rfl, q.2.1, q.2.2.1, q.2.2.2⟩
theorem gx_px {s : Nat → Int32} {i k j l : Nat} {v : Int32} (hk : k < 11) (hl : l < 11) (h : l ≠ k) : gx (px s i k v) j l = gx s j l := if_neg (by omega)
theorem gx_pxi {s : Nat → Int32} {i k j l : Nat} {v : Int32} (hk : k < 11) (hl : l < 11) (h : j ≠ i) : gx (px s i k v) j l = gx s j l := if_neg (by omega)
theorem gx_pxe (s : Nat → Int32) (i k : Nat) (v : Int32) : gx (px s i k v) i k = v := if_pos rfl
def zw_island (M : Mm) (sn m : Nat) (x v : Int32) : Int32 × Mm := if (0 ≤ x ∧ x ≤ 80) ∧ 0 ≤ v ∧ v ≤ 1 then (if z_onv (z_on M.2.1 sn x) < 0 then (z_isls (upd M.2.1 (12 + x.toNatClampNeg) v), sM (z_act M m) (upd M.2.1 (12 + x.toNatClampNeg) v)) else (-2, M)) else (-1, M)
def z_lnch (s : Nat → Int32) (sn : Nat) (c x d sl cr g : Int32) : Nat → Int32 := px (px (px (px (px (px (px (px (px (px (px (upd s 10 (nI sn + 1)) sn 0 c) sn 1 x) sn 2 d) sn 3 20) sn 4 sl) sn 5 cr) sn 6 g) sn 7 (-1)) sn 8 (-9)) sn 9 (-9)) sn 10 0
def zw_launch (M : Mm) (sn m : Nat) (c x d sl cr g : Int32) : Int32 × Mm := if (0 ≤ c ∧ c ≤ 1) ∧ (0 ≤ x ∧ x ≤ 80) ∧ (0 ≤ d ∧ d ≤ 5) ∧ (1 ≤ sl ∧ sl ≤ 8) ∧ (1 ≤ cr ∧ cr ≤ 40) ∧ 0 ≤ g ∧ g ≤ 9 then (if z_free M.2.1 sn x.toNatClampNeg = true then (if sn = 8 then (-3, M) else (nI sn, sM (z_act M m) (z_lnch M.2.1 sn c x d sl cr g))) else (-2, M)) else (-1, M)
def zw_timber (M : Mm) (m : Nat) (c t : Int32) : Int32 × Mm := if (0 ≤ c ∧ c ≤ 1) ∧ 0 ≤ t ∧ t ≤ 99 then (M.2.1 (8 + c.toNatClampNeg), sM (z_act M m) (upd M.2.1 (8 + c.toNatClampNeg) t)) else (-1, M)
def z_lay (s : Nat → Int32) (i : Nat) : Nat → Int32 :=
  let s1 := upd s (4 + i) (s (4 + i) &&& (1 <<< (s (6 + i) &&& 31) ^^^ (-1)))
  let s2 := upd s1 (4 + i) (if s1 (4 + i) = 0 then 63 else s1 (4 + i))
  upd s2 (6 + i) (-1)
def zk (f : (Nat → Int32) → Nat → (Nat → Int32)) : (Nat → Int32) → Nat → Nat → (Nat → Int32)
  | s, _, 0 => s
  | s, i, n + 1 => zk f (f s i) (i + 1) n
theorem zk_s (f : (Nat → Int32) → Nat → (Nat → Int32)) (s : Nat → Int32) (i n : Nat) : zk f s i (n + 1) = zk f (f s i) (i + 1) n := rfl
def z_beg (s : Nat → Int32) : Nat → Int32 :=
  let sum := s 6 + s 7
  let s1 := upd s 2 (s 2 + sum - (s 2 + sum) / 6 * 6)
  let s2 := upd s1 3 (sum - sum / 3 * 3 + 1)
  upd (zk z_lay s2 0 2) 1 1
def z_tell1 (s : Nat → Int32) (k : Nat) (x : Int32) : Nat → Int32 := if upd s (6 + k) x 6 < 0 ∨ upd s (6 + k) x 7 < 0 then upd s (6 + k) x else z_beg (upd s (6 + k) x)
def zw_tell (M : Mm) (m : Nat) (c x : Int32) : Int32 × Mm := if (0 ≤ c ∧ c ≤ 1) ∧ 0 ≤ x ∧ x ≤ 5 then (if M.2.1 1 = 1 ∨ 0 ≤ M.2.1 (6 + c.toNatClampNeg) ∨ ¬ z_has (M.2.1 (4 + c.toNatClampNeg)) x = true then (-2, M) else (z_told (z_tell1 M.2.1 c.toNatClampNeg x), sM (z_act M m) (z_tell1 M.2.1 c.toNatClampNeg x))) else (-1, M)
section LV31
variable {l : Launch} {D : va_G} {cA : Nat → ClassId} {N0 : Nat} {h : AH} {u : Nat} {M : Mm}
set_option maxHeartbeats 4000000 in
set_option maxRecDepth 100000 in
theorem c_X10_setIsland (hM : MAt h u M) {sn : Nat} (hn : sn ≤ 8) (hsn : M.2.1 10 = nI sn) {m : Nat} (hm : m ≤ 6) (hmu : M.1 3 = nI m) {x v : Int32} : Spec l D cA N0 m_X10_setIsland 2 0 0 [.ref u, .int x, .int v] h (fun r h' => r = some (.int (zw_island M sn m x v).1) ∧ ∃ M2, h' = mput h u M2 ∧ Ms (zw_island M sn m x v).2 M2) := by
  refine Spec.of (L := [some (.ref u), some (.int x), some (.int v)]) (by decide) rfl (Nat.le_of_ble_eq_true rfl) ?_
  have q0 : h = mput h u M := (mput_self hM).symm
  have mo0 := hM.o
  have ms0 := hM.s
  have mb0 := hM.b
  have mt0 := hM.t
  have mn0 := hM.n
  have mc0 := hM.c
  refine R_iload_n1 (pc := 0) dX10_setIsland_0 ?_
  refine R_callS1 (pc := 1) cal_X10_isHex kw888 kw889 dX10_setIsland_1 c_X10_isHex (by decide) (Nat.le_of_ble_eq_true rfl) ?_
  rintro _ _ ⟨rfl, rfl⟩
  refine R_ifb_eq (pc := 4) 17 dX10_setIsland_4 (by decide) (fun c_4 => ?_) (fun c_4 => ?_)
  · skip
    refine R_iconst (pc := 17) (v := (-1)) dX10_setIsland_17 (by decide) ?_
    refine R_iret (pc := 18) rfl rfl dX10_setIsland_18 ?_
    exact ⟨by rw [zw_island, if_neg (fun z => c_4 z.1)], _, q0, by rw [zw_island, if_neg (fun z => c_4 z.1)]; exact Ms.rf M⟩
  · skip
    obtain ⟨y, hy, ey⟩ := ge0 (n := 80) c_4.1 (by decide) c_4.2
    have hcy : (nI y).toNatClampNeg = y := nI_clamp (by omega)
    subst ey
    refine R_iload_n2 (pc := 7) dX10_setIsland_7 ?_
    refine R_i2l (pc := 8) dX10_setIsland_8 ?_
    refine R_lconst (pc := 9) (v := 0) dX10_setIsland_9 (by decide) ?_
    refine R_lconst (pc := 10) (v := 1) dX10_setIsland_10 (by decide) ?_
    refine R_callS3 (pc := 11) cal_X10_in kw892 kw893 dX10_setIsland_11 (c_X10_in rfl (lo := 0) (by decide) (hi := 1) (by decide)) (by decide) (Nat.le_of_ble_eq_true rfl) ?_
    rintro _ _ ⟨rfl, rfl⟩
    refine R_ifb_ne (pc := 14) 19 dX10_setIsland_14 (by decide) (fun c_14 => ?_) (fun c_14 => ?_)
    · skip
      refine R_aload_n0 (pc := 19) dX10_setIsland_19 ?_
      refine R_iload_n1 (pc := 20) dX10_setIsland_20 ?_
      refine R_callV1 (pc := 21) (T := TX10) cal_X10_shipOn kw895 kw897 kw24 dX10_setIsland_21 (c_X10_shipOn hM hn hsn) (by decide) (Nat.le_of_ble_eq_true rfl) (ci := 8) rfl (by assumption) ?_
      rintro _ _ ⟨rfl, rfl⟩
      refine R_if_lt (pc := 24) 30 dX10_setIsland_24 (by decide) (fun c_24 => ?_) (fun c_24 => ?_)
      · skip
        have d_24 := Int32.not_le.mpr c_24
        refine R_aload_n0 (pc := 30) dX10_setIsland_30 ?_
        refine R_callV0 (pc := 31) (T := TX10) cal_X10_act kw903 kw905 kw26 dX10_setIsland_31 (c_X10_act hM hm hmu) (by decide) (Nat.le_of_ble_eq_true rfl) (ci := 8) rfl (by assumption) ?_
        rintro _ h31 ⟨rfl, e31⟩
        obtain ⟨F2, b2, hact, hF2⟩ := z_act_form M m
        rw [hact] at e31
        have q31 : h31 = mput _ u (F2, M.2.1, b2, M.2.2.2) := mstep_M q0 e31
        have hM31 := mAt q31
        have mo31 := hM31.o
        have ms31 := hM31.s
        have mb31 := hM31.b
        have mt31 := hM31.t
        have mn31 := hM31.n
        have mc31 := hM31.c
        refine R_aload_n0 (pc := 34) dX10_setIsland_34 ?_
        refine G_X10_7 (pc := 35) dX10_setIsland_35 (by assumption) ?_
        refine R_bipush (pc := 38) (v := 12) dX10_setIsland_38 (by decide) ?_
        refine R_iload_n1 (pc := 40) dX10_setIsland_40 ?_
        refine R_iadd (pc := 41) dX10_setIsland_41 ?_
        rw [h12]
        refine R_iload_n2 (pc := 42) dX10_setIsland_42 ?_
        refine R_iastF (pc := 43) dX10_setIsland_43 (by assumption) (in_n (show 12 + y < 545 by omega) (by decide)) (fun h1 e1 f1 => ?_)
        rw [nI_clamp (show 12 + y < 2 ^ 31 by omega)] at e1 f1
        have q1 := mstep_s q31 e1
        have hM1 := mAt q1
        have mo1 := hM1.o
        have ms1 := hM1.s
        have mb1 := hM1.b
        have mt1 := hM1.t
        have mn1 := hM1.n
        have mc1 := hM1.c
        refine R_aload_n0 (pc := 44) dX10_setIsland_44 ?_
        refine R_callV0 (pc := 45) (T := TX10) cal_X10_islands kw911 kw913 kw28 dX10_setIsland_45 (c_X10_islands hM1) (by decide) (Nat.le_of_ble_eq_true rfl) (ci := 8) rfl (by assumption) ?_
        rintro _ _ ⟨rfl, rfl⟩
        refine R_iret (pc := 48) rfl rfl dX10_setIsland_48 ?_
        refine ⟨?_, _, q1, ?_⟩
        · rw [zw_island, if_pos ⟨c_4, c_14⟩, if_pos c_24, hcy]
          try rfl
        · rw [zw_island, if_pos ⟨c_4, c_14⟩, if_pos c_24, hcy]
          exact Ms.fin (s := M.2.1) (Ms.rf M) hact _
      · skip
        have d_24 := Int32.not_lt.mp c_24
        refine R_bipush (pc := 27) (v := (-2)) dX10_setIsland_27 (by decide) ?_
        refine R_iret (pc := 29) rfl rfl dX10_setIsland_29 ?_
        exact ⟨by rw [zw_island, if_pos ⟨c_4, c_14⟩, if_neg c_24], _, q0, by rw [zw_island, if_pos ⟨c_4, c_14⟩, if_neg c_24]; exact Ms.rf M⟩
    · skip
      refine R_iconst (pc := 17) (v := (-1)) dX10_setIsland_17 (by decide) ?_
      refine R_iret (pc := 18) rfl rfl dX10_setIsland_18 ?_
      exact ⟨by rw [zw_island, if_neg (fun z => c_14 z.2)], _, q0, by rw [zw_island, if_neg (fun z => c_14 z.2)]; exact Ms.rf M⟩

set_option maxHeartbeats 4000000 in
set_option maxRecDepth 100000 in
theorem c_X10_setTimber (hM : MAt h u M) {m : Nat} (hm : m ≤ 6) (hmu : M.1 3 = nI m) {c t : Int32} : Spec l D cA N0 m_X10_setTimber 2 0 0 [.ref u, .int c, .int t] h (fun r h' => r = some (.int (zw_timber M m c t).1) ∧ ∃ M2, h' = mput h u M2 ∧ Ms (zw_timber M m c t).2 M2) := by
  refine Spec.of (L := [some (.ref u), some (.int c), some (.int t), none]) (by decide) rfl (Nat.le_of_ble_eq_true rfl) ?_
  have q0 : h = mput h u M := (mput_self hM).symm
  have mo0 := hM.o
  have ms0 := hM.s
  have mb0 := hM.b
  have mt0 := hM.t
  have mn0 := hM.n
  have mc0 := hM.c
  refine R_iload_n1 (pc := 0) dX10_setTimber_0 ?_
  refine R_callS1 (pc := 1) cal_X10_isCaptain kw919 kw920 dX10_setTimber_1 c_X10_isCaptain (by decide) (Nat.le_of_ble_eq_true rfl) ?_
  rintro _ _ ⟨rfl, rfl⟩
  refine R_ifb_eq (pc := 4) 19 dX10_setTimber_4 (by decide) (fun c_4 => ?_) (fun c_4 => ?_)
  · skip
    refine R_iconst (pc := 19) (v := (-1)) dX10_setTimber_19 (by decide) ?_
    refine R_iret (pc := 20) rfl rfl dX10_setTimber_20 ?_
    exact ⟨by rw [zw_timber, if_neg (fun z => c_4 z.1)], _, q0, by rw [zw_timber, if_neg (fun z => c_4 z.1)]; exact Ms.rf M⟩
  · skip
    obtain ⟨k, hk, ek⟩ := ge0 (n := 1) c_4.1 (by decide) c_4.2
    have hck : (nI k).toNatClampNeg = k := nI_clamp (by omega)
    subst ek
    refine R_iload_n2 (pc := 7) dX10_setTimber_7 ?_
    refine R_i2l (pc := 8) dX10_setTimber_8 ?_
    refine R_lconst (pc := 9) (v := 0) dX10_setTimber_9 (by decide) ?_
    refine R_ldc2 (pc := 10) dX10_setTimber_10 kw938 ?_
    refine R_callS3 (pc := 13) cal_X10_in kw892 kw893 dX10_setTimber_13 (c_X10_in rfl (lo := 0) (by decide) (hi := 99) (by decide)) (by decide) (Nat.le_of_ble_eq_true rfl) ?_
    rintro _ _ ⟨rfl, rfl⟩
    refine R_ifb_ne (pc := 16) 21 dX10_setTimber_16 (by decide) (fun c_16 => ?_) (fun c_16 => ?_)
    · skip
      refine R_aload_n0 (pc := 21) dX10_setTimber_21 ?_
      refine R_callV0 (pc := 22) (T := TX10) cal_X10_act kw903 kw905 kw26 dX10_setTimber_22 (c_X10_act hM hm hmu) (by decide) (Nat.le_of_ble_eq_true rfl) (ci := 8) rfl (by assumption) ?_
      rintro _ h22 ⟨rfl, e22⟩
      obtain ⟨F2, b2, hact, hF2⟩ := z_act_form M m
      rw [hact] at e22
      have q22 : h22 = mput _ u (F2, M.2.1, b2, M.2.2.2) := mstep_M q0 e22
      have hM22 := mAt q22
      have mo22 := hM22.o
      have ms22 := hM22.s
      have mb22 := hM22.b
      have mt22 := hM22.t
      have mn22 := hM22.n
      have mc22 := hM22.c
      refine R_aload_n0 (pc := 25) dX10_setTimber_25 ?_
      refine G_X10_7 (pc := 26) dX10_setTimber_26 (by assumption) ?_
      refine R_bipush (pc := 29) (v := 8) dX10_setTimber_29 (by decide) ?_
      refine R_iload_n1 (pc := 31) dX10_setTimber_31 ?_
      refine R_iadd (pc := 32) dX10_setTimber_32 ?_
      rw [show (8 : Int32) + nI k = nI (8 + k) from nI_add 8 k]
      refine R_iald (pc := 33) dX10_setTimber_33 (by assumption) (in_n (show 8 + k < 545 by omega) (by decide)) ?_
      rw [nI_clamp (show 8 + k < 2 ^ 31 by omega)]
      refine R_istore_n3 (pc := 34) dX10_setTimber_34 rfl (by decide) ?_
      refine R_aload_n0 (pc := 35) dX10_setTimber_35 ?_
      refine G_X10_7 (pc := 36) dX10_setTimber_36 (by assumption) ?_
      refine R_bipush (pc := 39) (v := 8) dX10_setTimber_39 (by decide) ?_
      refine R_iload_n1 (pc := 41) dX10_setTimber_41 ?_
      refine R_iadd (pc := 42) dX10_setTimber_42 ?_
      rw [show (8 : Int32) + nI k = nI (8 + k) from nI_add 8 k]
      refine R_iload_n2 (pc := 43) dX10_setTimber_43 ?_
      refine R_iastF (pc := 44) dX10_setTimber_44 (by assumption) (in_n (show 8 + k < 545 by omega) (by decide)) (fun h1 e1 f1 => ?_)
      rw [nI_clamp (show 8 + k < 2 ^ 31 by omega)] at e1 f1
      have q1 := mstep_s q22 e1
      have hM1 := mAt q1
      have mo1 := hM1.o
      have ms1 := hM1.s
      have mb1 := hM1.b
      have mt1 := hM1.t
      have mn1 := hM1.n
      have mc1 := hM1.c
      refine R_iload_n3 (pc := 45) dX10_setTimber_45 ?_
      refine R_iret (pc := 46) rfl rfl dX10_setTimber_46 ?_
      refine ⟨?_, _, q1, ?_⟩
      · rw [zw_timber, if_pos ⟨c_4, c_16⟩, hck]
        try rfl
      · rw [zw_timber, if_pos ⟨c_4, c_16⟩, hck]
        exact Ms.fin (s := M.2.1) (Ms.rf M) hact _
    · skip
      refine R_iconst (pc := 19) (v := (-1)) dX10_setTimber_19 (by decide) ?_
      refine R_iret (pc := 20) rfl rfl dX10_setTimber_20 ?_
      exact ⟨by rw [zw_timber, if_neg (fun z => c_16 z.2)], _, q0, by rw [zw_timber, if_neg (fun z => c_16 z.2)]; exact Ms.rf M⟩

set_option maxHeartbeats 4000000 in
set_option maxRecDepth 100000 in
theorem c_X10_addShip (hM : MAt h u M) {sn : Nat} (hn : sn ≤ 8) (hsn : M.2.1 10 = nI sn) {m : Nat} (hm : m ≤ 6) (hmu : M.1 3 = nI m) {c x d sl cr g : Int32} : Spec l D cA N0 m_X10_addShip 3 0 0 [.ref u, .int c, .int x, .int d, .int sl, .int cr, .int g] h (fun r h' => r = some (.int (zw_launch M sn m c x d sl cr g).1) ∧ ∃ M2, h' = mput h u M2 ∧ Ms (zw_launch M sn m c x d sl cr g).2 M2) := by
  refine Spec.of (L := [some (.ref u), some (.int c), some (.int x), some (.int d), some (.int sl), some (.int cr), some (.int g), none]) (by decide) rfl (Nat.le_of_ble_eq_true rfl) ?_
  have q0 : h = mput h u M := (mput_self hM).symm
  have mo0 := hM.o
  have ms0 := hM.s
  have mb0 := hM.b
  have mt0 := hM.t
  have mn0 := hM.n
  have mc0 := hM.c
  refine R_iload_n1 (pc := 0) dX10_addShip_0 ?_
  refine R_callS1 (pc := 1) cal_X10_isCaptain kw919 kw920 dX10_addShip_1 c_X10_isCaptain (by decide) (Nat.le_of_ble_eq_true rfl) ?_
  rintro _ _ ⟨rfl, rfl⟩
  refine R_ifb_eq (pc := 4) 65 dX10_addShip_4 (by decide) (fun c_4 => ?_) (fun c_4 => ?_)
  · skip
    refine R_iconst (pc := 65) (v := (-1)) dX10_addShip_65 (by decide) ?_
    refine R_iret (pc := 66) rfl rfl dX10_addShip_66 ?_
    exact ⟨by rw [zw_launch, if_neg (fun z => c_4 z.1)], _, q0, by rw [zw_launch, if_neg (fun z => c_4 z.1)]; exact Ms.rf M⟩
  · skip
    refine R_iload_n2 (pc := 7) dX10_addShip_7 ?_
    refine R_callS1 (pc := 8) cal_X10_isHex kw888 kw889 dX10_addShip_8 c_X10_isHex (by decide) (Nat.le_of_ble_eq_true rfl) ?_
    rintro _ _ ⟨rfl, rfl⟩
    refine R_ifb_eq (pc := 11) 65 dX10_addShip_11 (by decide) (fun c_11 => ?_) (fun c_11 => ?_)
    · skip
      refine R_iconst (pc := 65) (v := (-1)) dX10_addShip_65 (by decide) ?_
      refine R_iret (pc := 66) rfl rfl dX10_addShip_66 ?_
      exact ⟨by rw [zw_launch, if_neg (fun z => c_11 z.2.1)], _, q0, by rw [zw_launch, if_neg (fun z => c_11 z.2.1)]; exact Ms.rf M⟩
    · skip
      obtain ⟨y, hy, ey⟩ := ge0 (n := 80) c_11.1 (by decide) c_11.2
      have hcy : (nI y).toNatClampNeg = y := nI_clamp (by omega)
      subst ey
      refine R_iload_n3 (pc := 14) dX10_addShip_14 ?_
      refine R_i2l (pc := 15) dX10_addShip_15 ?_
      refine R_lconst (pc := 16) (v := 0) dX10_addShip_16 (by decide) ?_
      refine R_ldc2 (pc := 17) dX10_addShip_17 kw922 ?_
      refine R_callS3 (pc := 20) cal_X10_in kw892 kw893 dX10_addShip_20 (c_X10_in rfl (lo := 0) (by decide) (hi := 5) (by decide)) (by decide) (Nat.le_of_ble_eq_true rfl) ?_
      rintro _ _ ⟨rfl, rfl⟩
      refine R_ifb_eq (pc := 23) 65 dX10_addShip_23 (by decide) (fun c_23 => ?_) (fun c_23 => ?_)
      · skip
        refine R_iconst (pc := 65) (v := (-1)) dX10_addShip_65 (by decide) ?_
        refine R_iret (pc := 66) rfl rfl dX10_addShip_66 ?_
        exact ⟨by rw [zw_launch, if_neg (fun z => c_23 z.2.2.1)], _, q0, by rw [zw_launch, if_neg (fun z => c_23 z.2.2.1)]; exact Ms.rf M⟩
      · skip
        refine R_iload4 (pc := 26) dX10_addShip_26 ?_
        refine R_i2l (pc := 28) dX10_addShip_28 ?_
        refine R_lconst (pc := 29) (v := 1) dX10_addShip_29 (by decide) ?_
        refine R_ldc2 (pc := 30) dX10_addShip_30 kw923 ?_
        refine R_callS3 (pc := 33) cal_X10_in kw892 kw893 dX10_addShip_33 (c_X10_in rfl (lo := 1) (by decide) (hi := 8) (by decide)) (by decide) (Nat.le_of_ble_eq_true rfl) ?_
        rintro _ _ ⟨rfl, rfl⟩
        refine R_ifb_eq (pc := 36) 65 dX10_addShip_36 (by decide) (fun c_36 => ?_) (fun c_36 => ?_)
        · skip
          refine R_iconst (pc := 65) (v := (-1)) dX10_addShip_65 (by decide) ?_
          refine R_iret (pc := 66) rfl rfl dX10_addShip_66 ?_
          exact ⟨by rw [zw_launch, if_neg (fun z => c_36 z.2.2.2.1)], _, q0, by rw [zw_launch, if_neg (fun z => c_36 z.2.2.2.1)]; exact Ms.rf M⟩
        · skip
          refine R_iload5 (pc := 39) dX10_addShip_39 ?_
          refine R_i2l (pc := 41) dX10_addShip_41 ?_
          refine R_lconst (pc := 42) (v := 1) dX10_addShip_42 (by decide) ?_
          refine R_ldc2 (pc := 43) dX10_addShip_43 kw924 ?_
          refine R_callS3 (pc := 46) cal_X10_in kw892 kw893 dX10_addShip_46 (c_X10_in rfl (lo := 1) (by decide) (hi := 40) (by decide)) (by decide) (Nat.le_of_ble_eq_true rfl) ?_
          rintro _ _ ⟨rfl, rfl⟩
          refine R_ifb_eq (pc := 49) 65 dX10_addShip_49 (by decide) (fun c_49 => ?_) (fun c_49 => ?_)
          · skip
            refine R_iconst (pc := 65) (v := (-1)) dX10_addShip_65 (by decide) ?_
            refine R_iret (pc := 66) rfl rfl dX10_addShip_66 ?_
            exact ⟨by rw [zw_launch, if_neg (fun z => c_49 z.2.2.2.2.1)], _, q0, by rw [zw_launch, if_neg (fun z => c_49 z.2.2.2.2.1)]; exact Ms.rf M⟩
          · skip
            refine R_iload6 (pc := 52) dX10_addShip_52 ?_
            refine R_i2l (pc := 54) dX10_addShip_54 ?_
            refine R_lconst (pc := 55) (v := 0) dX10_addShip_55 (by decide) ?_
            refine R_ldc2 (pc := 56) dX10_addShip_56 kw925 ?_
            refine R_callS3 (pc := 59) cal_X10_in kw892 kw893 dX10_addShip_59 (c_X10_in rfl (lo := 0) (by decide) (hi := 9) (by decide)) (by decide) (Nat.le_of_ble_eq_true rfl) ?_
            rintro _ _ ⟨rfl, rfl⟩
            refine R_ifb_ne (pc := 62) 67 dX10_addShip_62 (by decide) (fun c_62 => ?_) (fun c_62 => ?_)
            · skip
              refine R_aload_n0 (pc := 67) dX10_addShip_67 ?_
              refine R_iload_n2 (pc := 68) dX10_addShip_68 ?_
              refine R_callV1 (pc := 69) (T := TX10) cal_X10_isFree kw926 kw928 kw29 dX10_addShip_69 (c_X10_isFree hM hn hsn (show y < 81 by omega)) (by decide) (Nat.le_of_ble_eq_true rfl) (ci := 8) rfl (by assumption) ?_
              rintro _ _ ⟨rfl, rfl⟩
              refine R_ifb_ne (pc := 72) 78 dX10_addShip_72 (by decide) (fun c_72 => ?_) (fun c_72 => ?_)
              · skip
                refine R_aload_n0 (pc := 78) dX10_addShip_78 ?_
                refine G_X10_7 (pc := 79) dX10_addShip_79 (by assumption) ?_
                refine R_bipush (pc := 82) (v := 10) dX10_addShip_82 (by decide) ?_
                refine R_iald (pc := 84) dX10_addShip_84 (by assumption) (in_n (i := 10) (by decide) (by decide)) ?_
                rw [show ((10 : Int32)).toNatClampNeg = 10 from rfl]
                rw [hsn]
                refine R_bipush (pc := 85) (v := 8) dX10_addShip_85 (by decide) ?_
                refine R_icmp_ne (pc := 87) 93 dX10_addShip_87 (by decide) (fun c_87 => ?_) (fun c_87 => ?_)
                · skip
                  have hn8 : ¬ sn = 8 := fun z => c_87 (by rw [z]; rfl)
                  have hs8 : sn < 8 := by omega
                  refine R_aload_n0 (pc := 93) dX10_addShip_93 ?_
                  refine R_callV0 (pc := 94) (T := TX10) cal_X10_act kw903 kw905 kw26 dX10_addShip_94 (c_X10_act hM hm hmu) (by decide) (Nat.le_of_ble_eq_true rfl) (ci := 8) rfl (by assumption) ?_
                  rintro _ h94 ⟨rfl, e94⟩
                  obtain ⟨F2, b2, hact, hF2⟩ := z_act_form M m
                  rw [hact] at e94
                  have q94 : h94 = mput _ u (F2, M.2.1, b2, M.2.2.2) := mstep_M q0 e94
                  have hM94 := mAt q94
                  have mo94 := hM94.o
                  have ms94 := hM94.s
                  have mb94 := hM94.b
                  have mt94 := hM94.t
                  have mn94 := hM94.n
                  have mc94 := hM94.c
                  refine R_aload_n0 (pc := 97) dX10_addShip_97 ?_
                  refine G_X10_7 (pc := 98) dX10_addShip_98 (by assumption) ?_
                  refine R_bipush (pc := 101) (v := 10) dX10_addShip_101 (by decide) ?_
                  refine R_iald (pc := 103) dX10_addShip_103 (by assumption) (in_n (i := 10) (by decide) (by decide)) ?_
                  rw [show ((10 : Int32)).toNatClampNeg = 10 from rfl]
                  rw [show M.2.1 10 = nI sn from hsn]
                  refine R_istore7 (pc := 104) dX10_addShip_104 rfl (by decide) ?_
                  refine R_aload_n0 (pc := 106) dX10_addShip_106 ?_
                  refine G_X10_7 (pc := 107) dX10_addShip_107 (by assumption) ?_
                  refine R_bipush (pc := 110) (v := 10) dX10_addShip_110 (by decide) ?_
                  refine R_dup2 (pc := 112) dX10_addShip_112 rfl rfl ?_
                  refine R_iald (pc := 113) dX10_addShip_113 (by assumption) (in_n (i := 10) (by decide) (by decide)) ?_
                  rw [show ((10 : Int32)).toNatClampNeg = 10 from rfl]
                  rw [show M.2.1 10 = nI sn from hsn]
                  refine R_iconst (pc := 114) (v := 1) dX10_addShip_114 (by decide) ?_
                  refine R_iadd (pc := 115) dX10_addShip_115 ?_
                  refine R_iastF (pc := 116) dX10_addShip_116 (by assumption) (in_n (i := 10) (by decide) (by decide)) (fun h1 e1 f1 => ?_)
                  rw [show ((10 : Int32)).toNatClampNeg = 10 from rfl] at e1 f1
                  have q1 := mstep_s q94 e1
                  have hM1 := mAt q1
                  have mo1 := hM1.o
                  have ms1 := hM1.s
                  have mb1 := hM1.b
                  have mt1 := hM1.t
                  have mn1 := hM1.n
                  have mc1 := hM1.c
                  refine R_aload_n0 (pc := 117) dX10_addShip_117 ?_
                  refine R_iload7 (pc := 118) dX10_addShip_118 ?_
                  refine R_iconst (pc := 120) (v := 0) dX10_addShip_120 (by decide) ?_
                  refine R_iload_n1 (pc := 121) dX10_addShip_121 ?_
                  refine R_callV3 (pc := 122) (T := TX10) cal_X10_put kw930 kw932 kw30 dX10_addShip_122 (c_X10_put hM1 (by assumption) (k := 0) (by decide)) (by decide) (Nat.le_of_ble_eq_true rfl) (ci := 8) rfl (by assumption) ?_
                  rintro _ h2 ⟨rfl, e2⟩
                  have q2 := mstep_M q1 e2
                  have hM2 := mAt q2
                  have mo2 := hM2.o
                  have ms2 := hM2.s
                  have mb2 := hM2.b
                  have mt2 := hM2.t
                  have mn2 := hM2.n
                  have mc2 := hM2.c
                  refine R_aload_n0 (pc := 125) dX10_addShip_125 ?_
                  refine R_iload7 (pc := 126) dX10_addShip_126 ?_
                  refine R_iconst (pc := 128) (v := 1) dX10_addShip_128 (by decide) ?_
                  refine R_iload_n2 (pc := 129) dX10_addShip_129 ?_
                  refine R_callV3 (pc := 130) (T := TX10) cal_X10_put kw930 kw932 kw30 dX10_addShip_130 (c_X10_put hM2 (by assumption) (k := 1) (by decide)) (by decide) (Nat.le_of_ble_eq_true rfl) (ci := 8) rfl (by assumption) ?_
                  rintro _ h3 ⟨rfl, e3⟩
                  have q3 := mstep_M q2 e3
                  have hM3 := mAt q3
                  have mo3 := hM3.o
                  have ms3 := hM3.s
                  have mb3 := hM3.b
                  have mt3 := hM3.t
                  have mn3 := hM3.n
                  have mc3 := hM3.c
                  refine R_aload_n0 (pc := 133) dX10_addShip_133 ?_
                  refine R_iload7 (pc := 134) dX10_addShip_134 ?_
                  refine R_iconst (pc := 136) (v := 2) dX10_addShip_136 (by decide) ?_
                  refine R_iload_n3 (pc := 137) dX10_addShip_137 ?_
                  refine R_callV3 (pc := 138) (T := TX10) cal_X10_put kw930 kw932 kw30 dX10_addShip_138 (c_X10_put hM3 (by assumption) (k := 2) (by decide)) (by decide) (Nat.le_of_ble_eq_true rfl) (ci := 8) rfl (by assumption) ?_
                  rintro _ h4 ⟨rfl, e4⟩
                  have q4 := mstep_M q3 e4
                  have hM4 := mAt q4
                  have mo4 := hM4.o
                  have ms4 := hM4.s
                  have mb4 := hM4.b
                  have mt4 := hM4.t
                  have mn4 := hM4.n
                  have mc4 := hM4.c
                  refine R_aload_n0 (pc := 141) dX10_addShip_141 ?_
                  refine R_iload7 (pc := 142) dX10_addShip_142 ?_
                  refine R_iconst (pc := 144) (v := 3) dX10_addShip_144 (by decide) ?_
                  refine R_bipush (pc := 145) (v := 20) dX10_addShip_145 (by decide) ?_
                  refine R_callV3 (pc := 147) (T := TX10) cal_X10_put kw930 kw932 kw30 dX10_addShip_147 (c_X10_put hM4 (by assumption) (k := 3) (by decide)) (by decide) (Nat.le_of_ble_eq_true rfl) (ci := 8) rfl (by assumption) ?_
                  rintro _ h5 ⟨rfl, e5⟩
                  have q5 := mstep_M q4 e5
                  have hM5 := mAt q5
                  have mo5 := hM5.o
                  have ms5 := hM5.s
                  have mb5 := hM5.b
                  have mt5 := hM5.t
                  have mn5 := hM5.n
                  have mc5 := hM5.c
                  refine R_aload_n0 (pc := 150) dX10_addShip_150 ?_
                  refine R_iload7 (pc := 151) dX10_addShip_151 ?_
                  refine R_iconst (pc := 153) (v := 4) dX10_addShip_153 (by decide) ?_
                  refine R_iload4 (pc := 154) dX10_addShip_154 ?_
                  refine R_callV3 (pc := 156) (T := TX10) cal_X10_put kw930 kw932 kw30 dX10_addShip_156 (c_X10_put hM5 (by assumption) (k := 4) (by decide)) (by decide) (Nat.le_of_ble_eq_true rfl) (ci := 8) rfl (by assumption) ?_
                  rintro _ h6 ⟨rfl, e6⟩
                  have q6 := mstep_M q5 e6
                  have hM6 := mAt q6
                  have mo6 := hM6.o
                  have ms6 := hM6.s
                  have mb6 := hM6.b
                  have mt6 := hM6.t
                  have mn6 := hM6.n
                  have mc6 := hM6.c
                  refine R_aload_n0 (pc := 159) dX10_addShip_159 ?_
                  refine R_iload7 (pc := 160) dX10_addShip_160 ?_
                  refine R_iconst (pc := 162) (v := 5) dX10_addShip_162 (by decide) ?_
                  refine R_iload5 (pc := 163) dX10_addShip_163 ?_
                  refine R_callV3 (pc := 165) (T := TX10) cal_X10_put kw930 kw932 kw30 dX10_addShip_165 (c_X10_put hM6 (by assumption) (k := 5) (by decide)) (by decide) (Nat.le_of_ble_eq_true rfl) (ci := 8) rfl (by assumption) ?_
                  rintro _ h7 ⟨rfl, e7⟩
                  have q7 := mstep_M q6 e7
                  have hM7 := mAt q7
                  have mo7 := hM7.o
                  have ms7 := hM7.s
                  have mb7 := hM7.b
                  have mt7 := hM7.t
                  have mn7 := hM7.n
                  have mc7 := hM7.c
                  refine R_aload_n0 (pc := 168) dX10_addShip_168 ?_
                  refine R_iload7 (pc := 169) dX10_addShip_169 ?_
                  refine R_bipush (pc := 171) (v := 6) dX10_addShip_171 (by decide) ?_
                  refine R_iload6 (pc := 173) dX10_addShip_173 ?_
                  refine R_callV3 (pc := 175) (T := TX10) cal_X10_put kw930 kw932 kw30 dX10_addShip_175 (c_X10_put hM7 (by assumption) (k := 6) (by decide)) (by decide) (Nat.le_of_ble_eq_true rfl) (ci := 8) rfl (by assumption) ?_
                  rintro _ h8 ⟨rfl, e8⟩
                  have q8 := mstep_M q7 e8
                  have hM8 := mAt q8
                  have mo8 := hM8.o
                  have ms8 := hM8.s
                  have mb8 := hM8.b
                  have mt8 := hM8.t
                  have mn8 := hM8.n
                  have mc8 := hM8.c
                  refine R_aload_n0 (pc := 178) dX10_addShip_178 ?_
                  refine R_iload7 (pc := 179) dX10_addShip_179 ?_
                  refine R_bipush (pc := 181) (v := 7) dX10_addShip_181 (by decide) ?_
                  refine R_iconst (pc := 183) (v := (-1)) dX10_addShip_183 (by decide) ?_
                  refine R_callV3 (pc := 184) (T := TX10) cal_X10_put kw930 kw932 kw30 dX10_addShip_184 (c_X10_put hM8 (by assumption) (k := 7) (by decide)) (by decide) (Nat.le_of_ble_eq_true rfl) (ci := 8) rfl (by assumption) ?_
                  rintro _ h9 ⟨rfl, e9⟩
                  have q9 := mstep_M q8 e9
                  have hM9 := mAt q9
                  have mo9 := hM9.o
                  have ms9 := hM9.s
                  have mb9 := hM9.b
                  have mt9 := hM9.t
                  have mn9 := hM9.n
                  have mc9 := hM9.c
                  refine R_aload_n0 (pc := 187) dX10_addShip_187 ?_
                  refine R_iload7 (pc := 188) dX10_addShip_188 ?_
                  refine R_bipush (pc := 190) (v := 8) dX10_addShip_190 (by decide) ?_
                  refine R_bipush (pc := 192) (v := (-9)) dX10_addShip_192 (by decide) ?_
                  refine R_callV3 (pc := 194) (T := TX10) cal_X10_put kw930 kw932 kw30 dX10_addShip_194 (c_X10_put hM9 (by assumption) (k := 8) (by decide)) (by decide) (Nat.le_of_ble_eq_true rfl) (ci := 8) rfl (by assumption) ?_
                  rintro _ h10 ⟨rfl, e10⟩
                  have q10 := mstep_M q9 e10
                  have hM10 := mAt q10
                  have mo10 := hM10.o
                  have ms10 := hM10.s
                  have mb10 := hM10.b
                  have mt10 := hM10.t
                  have mn10 := hM10.n
                  have mc10 := hM10.c
                  refine R_aload_n0 (pc := 197) dX10_addShip_197 ?_
                  refine R_iload7 (pc := 198) dX10_addShip_198 ?_
                  refine R_bipush (pc := 200) (v := 9) dX10_addShip_200 (by decide) ?_
                  refine R_bipush (pc := 202) (v := (-9)) dX10_addShip_202 (by decide) ?_
                  refine R_callV3 (pc := 204) (T := TX10) cal_X10_put kw930 kw932 kw30 dX10_addShip_204 (c_X10_put hM10 (by assumption) (k := 9) (by decide)) (by decide) (Nat.le_of_ble_eq_true rfl) (ci := 8) rfl (by assumption) ?_
                  rintro _ h11 ⟨rfl, e11⟩
                  have q11 := mstep_M q10 e11
                  have hM11 := mAt q11
                  have mo11 := hM11.o
                  have ms11 := hM11.s
                  have mb11 := hM11.b
                  have mt11 := hM11.t
                  have mn11 := hM11.n
                  have mc11 := hM11.c
                  refine R_aload_n0 (pc := 207) dX10_addShip_207 ?_
                  refine R_iload7 (pc := 208) dX10_addShip_208 ?_
                  refine R_bipush (pc := 210) (v := 10) dX10_addShip_210 (by decide) ?_
                  refine R_iconst (pc := 212) (v := 0) dX10_addShip_212 (by decide) ?_
                  refine R_callV3 (pc := 213) (T := TX10) cal_X10_put kw930 kw932 kw30 dX10_addShip_213 (c_X10_put hM11 (by assumption) (k := 10) (by decide)) (by decide) (Nat.le_of_ble_eq_true rfl) (ci := 8) rfl (by assumption) ?_
                  rintro _ h12 ⟨rfl, e12⟩
                  have q12 := mstep_M q11 e12
                  have hM12 := mAt q12
                  have mo12 := hM12.o
                  have ms12 := hM12.s
                  have mb12 := hM12.b
                  have mt12 := hM12.t
                  have mn12 := hM12.n
                  have mc12 := hM12.c
                  refine R_iload7 (pc := 216) dX10_addShip_216 ?_
                  refine R_iret (pc := 218) rfl rfl dX10_addShip_218 ?_
                  refine ⟨?_, _, q12, ?_⟩
                  · rw [zw_launch, if_pos ⟨c_4, c_11, c_23, c_36, c_49, c_62⟩, hcy, if_pos c_72, if_neg hn8]
                    try rfl
                  · rw [zw_launch, if_pos ⟨c_4, c_11, c_23, c_36, c_49, c_62⟩, hcy, if_pos c_72, if_neg hn8]
                    exact Ms.fin (s := M.2.1) (Ms.rf M) hact _
                · skip
                  have hn8 : sn = 8 := (nI_eq (b := 8) (by omega) (by decide)).mp c_87
                  refine R_bipush (pc := 90) (v := (-3)) dX10_addShip_90 (by decide) ?_
                  refine R_iret (pc := 92) rfl rfl dX10_addShip_92 ?_
                  exact ⟨by rw [zw_launch, if_pos ⟨c_4, c_11, c_23, c_36, c_49, c_62⟩, hcy, if_pos c_72, if_pos hn8], _, q0, by rw [zw_launch, if_pos ⟨c_4, c_11, c_23, c_36, c_49, c_62⟩, hcy, if_pos c_72, if_pos hn8]; exact Ms.rf M⟩
              · skip
                refine R_bipush (pc := 75) (v := (-2)) dX10_addShip_75 (by decide) ?_
                refine R_iret (pc := 77) rfl rfl dX10_addShip_77 ?_
                exact ⟨by rw [zw_launch, if_pos ⟨c_4, c_11, c_23, c_36, c_49, c_62⟩, hcy, if_neg c_72], _, q0, by rw [zw_launch, if_pos ⟨c_4, c_11, c_23, c_36, c_49, c_62⟩, hcy, if_neg c_72]; exact Ms.rf M⟩
            · skip
              refine R_iconst (pc := 65) (v := (-1)) dX10_addShip_65 (by decide) ?_
              refine R_iret (pc := 66) rfl rfl dX10_addShip_66 ?_
              exact ⟨by rw [zw_launch, if_neg (fun z => c_62 z.2.2.2.2.2)], _, q0, by rw [zw_launch, if_neg (fun z => c_62 z.2.2.2.2.2)]; exact Ms.rf M⟩

end LV31
