/-! THE CLASS whole: its public methods -/
def p_ship (C : Cm) (x v : Int32) : Int32 := match k_known C.1.1 x with
  | none => -1
  | some u => k_tship C.1.1 u v
def p_cap (C : Cm) (c v : Int32) : Int32 := if c = 0 ∨ c = 1 then k_tcap C.1.1 c v else -1
def p_on (C : Cm) (x : Int32) : Int32 := if 0 ≤ x ∧ x < 81 then k_cont C.1.1 x else -1
def p_strength (C : Cm) (c : Int32) : Int32 := if c = 0 ∨ c = 1 then k_strength C.1.1 c else -1
def p_targets (C : Cm) (x s : Int32) : Int32 := match k_known C.1.1 x with
  | none => -1
  | some u => if s = 0 ∨ s = 1 then k_targets C.1.1 u s else -1
def p_threats (C : Cm) (x : Int32) : Int32 := match k_known C.1.1 x with
  | none => -1
  | some u => k_threats C.1.1 u
def p_hits (C : Cm) (x s y : Int32) : Int32 := match k_known C.1.1 x, k_known C.1.1 y with
  | some u, some v => if ¬ x = y ∧ (s = 0 ∨ s = 1) then (if k_shot C.1.1 u s v = 0 then -9 else k_hits (shF C.1.1 u) (k_shot C.1.1 u s v)) else -1
  | _, _ => -1
def p_wind (C : Cm) (x y : Int32) : Int32 := if (0 ≤ x ∧ x < 6) ∧ 0 ≤ y ∧ y < 6 then 10 * k_dir C.1.1 (x + y) + k_str (x + y) else -1
def hdg (G : Gm) (u : Nat) : Nat := (shF G u 3).toNatClampNeg
def p_way (C : Cm) (Q : Nat → Nat) (x y v : Int32) : Int32 := match k_known C.1.1 x with
  | none => -1
  | some u => if (0 ≤ y ∧ y < 81) ∧ 0 ≤ v ∧ v ≤ 2 then btell (bway C.1.1 u (hdg C.1.1 u) (k_now C.1.1 u) Q) y.toNatClampNeg v else -1
def p_reach (C : Cm) (Q : Nat → Nat) (x : Int32) : Int32 := match k_known C.1.1 x with
  | none => -1
  | some u => nI (breach (bway C.1.1 u (hdg C.1.1 u) (k_now C.1.1 u) Q) 81)
def p_best (C : Cm) (Q : Nat → Nat) (x y v : Int32) : Int32 := match k_known C.1.1 x with
  | none => -1
  | some u => if (0 ≤ y ∧ y < 81) ∧ 0 ≤ v ∧ v ≤ 1 then k_card C.1.1 u (nI (nd (bbest (bway C.1.1 u (hdg C.1.1 u) 6 Q) y.toNatClampNeg))) v else -1
def p_count (C : Cm) (v : Int32) : Int32 := if v = 9 then kbit C.1.2.2.2 else if v = 10 then nI C.2.1 else if v = 11 then nI C.2.2.2.2 else k_tally C.1.1 v
def capp (C : Cm) (x : Int32) : Int32 × Cm := if 1 ≤ x ∧ x ≤ 255 then (if C.2.2.2.2 < 100 then (nI (C.2.2.2.2 + 1), (C.1, C.2.1, C.2.2.1, upd C.2.2.2.1 C.2.2.2.2 x, C.2.2.2.2 + 1)) else (-3, C)) else (-1, C)
def cclear (C : Cm) : Int32 × Cm := (nI C.2.2.2.2, (C.1, C.2.1, C.2.2.1, C.2.2.2.1, 0))
section LV18
variable {l : Launch} {D : va_G} {cA : Nat → ClassId} {N0 : Nat} {h : AH} {w : Nat} {C : Cm}
set_option maxHeartbeats 4000000 in
set_option maxRecDepth 100000 in
theorem c_X9_setIsland (hC : CAt h w C) (hz : sBz C.1) {x0 x1 : Int32} : Spec l D cA N0 m_X9_setIsland 6 0 0 [.ref w, .int x0, .int x1] h (fun r h' => r = some (.int (k_place C.1.1 x0 x1).1) ∧ CAt h' w (cact C (k_place C.1.1 x0 x1).1 ((k_place C.1.1 x0 x1).2, C.1.2)) ∧ Frm h h' w 329) := by
  refine Spec.of (L := [some (.ref w), some (.int x0), some (.int x1)]) (by decide) rfl (Nat.le_of_ble_eq_true rfl) ?_
  obtain ⟨r, A, X, a, q, O, B, hR, hW, hV⟩ := hC
  have hC : CAt h w C := ⟨r, A, X, a, q, O, B, hR, hW, hV⟩
  have c0 := hR.1
  have c1 : h.2 (CA w 0) = some (.inr (6, ob6 (sA (w + 1)) (fun _ => C.1.2.2.2))) := hR.2.1.o
  have c2 : h.2 (CA w 1) = some (.inr (2, ob2 A (fun _ => nI C.2.1))) := hR.2.2.1
  have c3 : h.2 (CA w 2) = some (.inr (3, ob3 O (orF C.2.2.2.2 a q))) := hR.2.2.2.2.2.1
  have c4 : h.2 (CA w 3) = some (.inr (4, ob4 (fun k => w + 325 + 1 + k) (fun _ => nI B.2.2.2))) := hR.2.2.2.2.2.2.2.1
  have hG : GmAt h (sA (w + 1) 0) C.1.1 := hR.2.1.2.1
  have g0 := hG.o0
  have hd0 : CA w 0 + 40 ≤ A 1 ∨ A 1 + 40 ≤ CA w 0 := Or.inl (by have := hW.a6; show w + 1 + 40 ≤ A 1; omega)
  refine R_aload_n0 (pc := 0) dX9_setIsland_0 ?_
  refine G_X9_19 (pc := 1) dX9_setIsland_1 c0 ?_
  refine R_aload_n0 (pc := 4) dX9_setIsland_4 ?_
  refine G_X9_10 (pc := 5) dX9_setIsland_5 c0 ?_
  refine R_callV1 (pc := 8) (T := TX3) cal_X3_keepAside kw254 kw255 kw256 dX9_setIsland_8 (c_X3_keepAside hR.2.2.1 hR.st6 hR.2.1 hd0 hz) (by decide) (Nat.le_of_ble_eq_true rfl) (ci := 2) rfl c2 ?_
  rintro _ h1 ⟨rfl, e1⟩
  obtain ⟨hR1, hW1, fr1⟩ := hR.aside hW hz e1
  refine R_aload_n0 (pc := 11) dX9_setIsland_11 ?_
  refine G_X9_19 (pc := 12) dX9_setIsland_12 hR1.1 ?_
  refine R_aload_n0 (pc := 15) dX9_setIsland_15 ?_
  refine G_X9_10 (pc := 16) dX9_setIsland_16 hR1.1 ?_
  refine G_X9_41 (pc := 19) dX9_setIsland_19 hR1.2.1.o ?_
  refine R_iload_n1 (pc := 22) dX9_setIsland_22 ?_
  refine R_iload_n2 (pc := 23) dX9_setIsland_23 ?_
  refine R_callV2 (pc := 24) (T := TX1) cal_X1_placeIsland kw400 kw401 kw402 dX9_setIsland_24 (c_X1_placeIsland hR1.2.1.2.1) (by decide) (Nat.le_of_ble_eq_true rfl) (ci := 1) rfl hR1.2.1.2.1.o0 ?_
  rintro _ h2 ⟨rfl, e2⟩
  obtain ⟨hs2, fr2⟩ := st_gput hR1.2.1 e2
  obtain ⟨hR2, fr2⟩ := hR1.state hW1 hs2 fr2
  refine R_callV1 (pc := 27) (T := TX3) cal_X3_settle kw300 kw301 kw302 dX9_setIsland_27 (c_X3_settle hR2.2.2.1 (hR2.hr hW1) hW1.h0 (hR2.hst hW1) (hR2.has hW1)) (by decide) (Nat.le_of_ble_eq_true rfl) (ci := 2) rfl hR2.2.2.1 ?_
  rintro _ h3 ⟨rfl, e3⟩
  refine R_iret (pc := 30) rfl rfl dX9_setIsland_30 ?_
  obtain ⟨g1, g2⟩ := act_fin hR2 hW1 hV e3 (fr1.tr fr2)
  exact ⟨rfl, g1, g2⟩

set_option maxHeartbeats 4000000 in
set_option maxRecDepth 100000 in
theorem c_X9_tell (hC : CAt h w C) (hz : sBz C.1) {x0 x1 : Int32} : Spec l D cA N0 m_X9_tell 6 0 0 [.ref w, .int x0, .int x1] h (fun r h' => r = some (.int (k_tell C.1.1 x0 x1).1) ∧ CAt h' w (cact C (k_tell C.1.1 x0 x1).1 ((k_tell C.1.1 x0 x1).2, C.1.2)) ∧ Frm h h' w 329) := by
  refine Spec.of (L := [some (.ref w), some (.int x0), some (.int x1)]) (by decide) rfl (Nat.le_of_ble_eq_true rfl) ?_
  obtain ⟨r, A, X, a, q, O, B, hR, hW, hV⟩ := hC
  have hC : CAt h w C := ⟨r, A, X, a, q, O, B, hR, hW, hV⟩
  have c0 := hR.1
  have c1 : h.2 (CA w 0) = some (.inr (6, ob6 (sA (w + 1)) (fun _ => C.1.2.2.2))) := hR.2.1.o
  have c2 : h.2 (CA w 1) = some (.inr (2, ob2 A (fun _ => nI C.2.1))) := hR.2.2.1
  have c3 : h.2 (CA w 2) = some (.inr (3, ob3 O (orF C.2.2.2.2 a q))) := hR.2.2.2.2.2.1
  have c4 : h.2 (CA w 3) = some (.inr (4, ob4 (fun k => w + 325 + 1 + k) (fun _ => nI B.2.2.2))) := hR.2.2.2.2.2.2.2.1
  have hG : GmAt h (sA (w + 1) 0) C.1.1 := hR.2.1.2.1
  have g0 := hG.o0
  have hd0 : CA w 0 + 40 ≤ A 1 ∨ A 1 + 40 ≤ CA w 0 := Or.inl (by have := hW.a6; show w + 1 + 40 ≤ A 1; omega)
  refine R_aload_n0 (pc := 0) dX9_tell_0 ?_
  refine G_X9_19 (pc := 1) dX9_tell_1 c0 ?_
  refine R_aload_n0 (pc := 4) dX9_tell_4 ?_
  refine G_X9_10 (pc := 5) dX9_tell_5 c0 ?_
  refine R_callV1 (pc := 8) (T := TX3) cal_X3_keepAside kw254 kw255 kw256 dX9_tell_8 (c_X3_keepAside hR.2.2.1 hR.st6 hR.2.1 hd0 hz) (by decide) (Nat.le_of_ble_eq_true rfl) (ci := 2) rfl c2 ?_
  rintro _ h1 ⟨rfl, e1⟩
  obtain ⟨hR1, hW1, fr1⟩ := hR.aside hW hz e1
  refine R_aload_n0 (pc := 11) dX9_tell_11 ?_
  refine G_X9_19 (pc := 12) dX9_tell_12 hR1.1 ?_
  refine R_aload_n0 (pc := 15) dX9_tell_15 ?_
  refine G_X9_10 (pc := 16) dX9_tell_16 hR1.1 ?_
  refine G_X9_41 (pc := 19) dX9_tell_19 hR1.2.1.o ?_
  refine R_iload_n1 (pc := 22) dX9_tell_22 ?_
  refine R_iload_n2 (pc := 23) dX9_tell_23 ?_
  refine R_callV2 (pc := 24) (T := TX1) cal_X1_tellCard kw697 kw698 kw699 dX9_tell_24 (c_X1_tellCard hR1.2.1.2.1) (by decide) (Nat.le_of_ble_eq_true rfl) (ci := 1) rfl hR1.2.1.2.1.o0 ?_
  rintro _ h2 ⟨rfl, e2⟩
  obtain ⟨hs2, fr2⟩ := st_gput hR1.2.1 e2
  obtain ⟨hR2, fr2⟩ := hR1.state hW1 hs2 fr2
  refine R_callV1 (pc := 27) (T := TX3) cal_X3_settle kw300 kw301 kw302 dX9_tell_27 (c_X3_settle hR2.2.2.1 (hR2.hr hW1) hW1.h0 (hR2.hst hW1) (hR2.has hW1)) (by decide) (Nat.le_of_ble_eq_true rfl) (ci := 2) rfl hR2.2.2.1 ?_
  rintro _ h3 ⟨rfl, e3⟩
  refine R_iret (pc := 30) rfl rfl dX9_tell_30 ?_
  obtain ⟨g1, g2⟩ := act_fin hR2 hW1 hV e3 (fr1.tr fr2)
  exact ⟨rfl, g1, g2⟩

set_option maxHeartbeats 4000000 in
set_option maxRecDepth 100000 in
theorem c_X9_sail (hC : CAt h w C) (hz : sBz C.1) {x0 x1 : Int32} : Spec l D cA N0 m_X9_sail 6 0 0 [.ref w, .int x0, .int x1] h (fun r h' => r = some (.int (k_sail C.1.1 x0 x1).1) ∧ CAt h' w (cact C (k_sail C.1.1 x0 x1).1 ((k_sail C.1.1 x0 x1).2, C.1.2)) ∧ Frm h h' w 329) := by
  refine Spec.of (L := [some (.ref w), some (.int x0), some (.int x1)]) (by decide) rfl (Nat.le_of_ble_eq_true rfl) ?_
  obtain ⟨r, A, X, a, q, O, B, hR, hW, hV⟩ := hC
  have hC : CAt h w C := ⟨r, A, X, a, q, O, B, hR, hW, hV⟩
  have c0 := hR.1
  have c1 : h.2 (CA w 0) = some (.inr (6, ob6 (sA (w + 1)) (fun _ => C.1.2.2.2))) := hR.2.1.o
  have c2 : h.2 (CA w 1) = some (.inr (2, ob2 A (fun _ => nI C.2.1))) := hR.2.2.1
  have c3 : h.2 (CA w 2) = some (.inr (3, ob3 O (orF C.2.2.2.2 a q))) := hR.2.2.2.2.2.1
  have c4 : h.2 (CA w 3) = some (.inr (4, ob4 (fun k => w + 325 + 1 + k) (fun _ => nI B.2.2.2))) := hR.2.2.2.2.2.2.2.1
  have hG : GmAt h (sA (w + 1) 0) C.1.1 := hR.2.1.2.1
  have g0 := hG.o0
  have hd0 : CA w 0 + 40 ≤ A 1 ∨ A 1 + 40 ≤ CA w 0 := Or.inl (by have := hW.a6; show w + 1 + 40 ≤ A 1; omega)
  refine R_aload_n0 (pc := 0) dX9_sail_0 ?_
  refine G_X9_19 (pc := 1) dX9_sail_1 c0 ?_
  refine R_aload_n0 (pc := 4) dX9_sail_4 ?_
  refine G_X9_10 (pc := 5) dX9_sail_5 c0 ?_
  refine R_callV1 (pc := 8) (T := TX3) cal_X3_keepAside kw254 kw255 kw256 dX9_sail_8 (c_X3_keepAside hR.2.2.1 hR.st6 hR.2.1 hd0 hz) (by decide) (Nat.le_of_ble_eq_true rfl) (ci := 2) rfl c2 ?_
  rintro _ h1 ⟨rfl, e1⟩
  obtain ⟨hR1, hW1, fr1⟩ := hR.aside hW hz e1
  refine R_aload_n0 (pc := 11) dX9_sail_11 ?_
  refine G_X9_19 (pc := 12) dX9_sail_12 hR1.1 ?_
  refine R_aload_n0 (pc := 15) dX9_sail_15 ?_
  refine G_X9_10 (pc := 16) dX9_sail_16 hR1.1 ?_
  refine G_X9_41 (pc := 19) dX9_sail_19 hR1.2.1.o ?_
  refine R_iload_n1 (pc := 22) dX9_sail_22 ?_
  refine R_iload_n2 (pc := 23) dX9_sail_23 ?_
  refine R_callV2 (pc := 24) (T := TX1) cal_X1_sailAlong kw602 kw603 kw604 dX9_sail_24 (c_X1_sailAlong hR1.2.1.2.1) (by decide) (Nat.le_of_ble_eq_true rfl) (ci := 1) rfl hR1.2.1.2.1.o0 ?_
  rintro _ h2 ⟨rfl, e2⟩
  obtain ⟨hs2, fr2⟩ := st_gput hR1.2.1 e2
  obtain ⟨hR2, fr2⟩ := hR1.state hW1 hs2 fr2
  refine R_callV1 (pc := 27) (T := TX3) cal_X3_settle kw300 kw301 kw302 dX9_sail_27 (c_X3_settle hR2.2.2.1 (hR2.hr hW1) hW1.h0 (hR2.hst hW1) (hR2.has hW1)) (by decide) (Nat.le_of_ble_eq_true rfl) (ci := 2) rfl hR2.2.2.1 ?_
  rintro _ h3 ⟨rfl, e3⟩
  refine R_iret (pc := 30) rfl rfl dX9_sail_30 ?_
  obtain ⟨g1, g2⟩ := act_fin hR2 hW1 hV e3 (fr1.tr fr2)
  exact ⟨rfl, g1, g2⟩

set_option maxHeartbeats 4000000 in
set_option maxRecDepth 100000 in
theorem c_X9_fire (hC : CAt h w C) (hz : sBz C.1) {x0 x1 x2 : Int32} : Spec l D cA N0 m_X9_fire 6 0 0 [.ref w, .int x0, .int x1, .int x2] h (fun r h' => r = some (.int (k_fire C.1.1 x0 x1 x2).1) ∧ CAt h' w (cact C (k_fire C.1.1 x0 x1 x2).1 ((k_fire C.1.1 x0 x1 x2).2, C.1.2)) ∧ Frm h h' w 329) := by
  refine Spec.of (L := [some (.ref w), some (.int x0), some (.int x1), some (.int x2)]) (by decide) rfl (Nat.le_of_ble_eq_true rfl) ?_
  obtain ⟨r, A, X, a, q, O, B, hR, hW, hV⟩ := hC
  have hC : CAt h w C := ⟨r, A, X, a, q, O, B, hR, hW, hV⟩
  have c0 := hR.1
  have c1 : h.2 (CA w 0) = some (.inr (6, ob6 (sA (w + 1)) (fun _ => C.1.2.2.2))) := hR.2.1.o
  have c2 : h.2 (CA w 1) = some (.inr (2, ob2 A (fun _ => nI C.2.1))) := hR.2.2.1
  have c3 : h.2 (CA w 2) = some (.inr (3, ob3 O (orF C.2.2.2.2 a q))) := hR.2.2.2.2.2.1
  have c4 : h.2 (CA w 3) = some (.inr (4, ob4 (fun k => w + 325 + 1 + k) (fun _ => nI B.2.2.2))) := hR.2.2.2.2.2.2.2.1
  have hG : GmAt h (sA (w + 1) 0) C.1.1 := hR.2.1.2.1
  have g0 := hG.o0
  have hd0 : CA w 0 + 40 ≤ A 1 ∨ A 1 + 40 ≤ CA w 0 := Or.inl (by have := hW.a6; show w + 1 + 40 ≤ A 1; omega)
  refine R_aload_n0 (pc := 0) dX9_fire_0 ?_
  refine G_X9_19 (pc := 1) dX9_fire_1 c0 ?_
  refine R_aload_n0 (pc := 4) dX9_fire_4 ?_
  refine G_X9_10 (pc := 5) dX9_fire_5 c0 ?_
  refine R_callV1 (pc := 8) (T := TX3) cal_X3_keepAside kw254 kw255 kw256 dX9_fire_8 (c_X3_keepAside hR.2.2.1 hR.st6 hR.2.1 hd0 hz) (by decide) (Nat.le_of_ble_eq_true rfl) (ci := 2) rfl c2 ?_
  rintro _ h1 ⟨rfl, e1⟩
  obtain ⟨hR1, hW1, fr1⟩ := hR.aside hW hz e1
  refine R_aload_n0 (pc := 11) dX9_fire_11 ?_
  refine G_X9_19 (pc := 12) dX9_fire_12 hR1.1 ?_
  refine R_aload_n0 (pc := 15) dX9_fire_15 ?_
  refine G_X9_10 (pc := 16) dX9_fire_16 hR1.1 ?_
  refine G_X9_41 (pc := 19) dX9_fire_19 hR1.2.1.o ?_
  refine R_iload_n1 (pc := 22) dX9_fire_22 ?_
  refine R_iload_n2 (pc := 23) dX9_fire_23 ?_
  refine R_iload_n3 (pc := 24) dX9_fire_24 ?_
  refine R_callV3 (pc := 25) (T := TX1) cal_X1_fireAt kw624 kw625 kw626 dX9_fire_25 (c_X1_fireAt hR1.2.1.2.1) (by decide) (Nat.le_of_ble_eq_true rfl) (ci := 1) rfl hR1.2.1.2.1.o0 ?_
  rintro _ h2 ⟨rfl, e2⟩
  obtain ⟨hs2, fr2⟩ := st_gput hR1.2.1 e2
  obtain ⟨hR2, fr2⟩ := hR1.state hW1 hs2 fr2
  refine R_callV1 (pc := 28) (T := TX3) cal_X3_settle kw300 kw301 kw302 dX9_fire_28 (c_X3_settle hR2.2.2.1 (hR2.hr hW1) hW1.h0 (hR2.hst hW1) (hR2.has hW1)) (by decide) (Nat.le_of_ble_eq_true rfl) (ci := 2) rfl hR2.2.2.1 ?_
  rintro _ h3 ⟨rfl, e3⟩
  refine R_iret (pc := 31) rfl rfl dX9_fire_31 ?_
  obtain ⟨g1, g2⟩ := act_fin hR2 hW1 hV e3 (fr1.tr fr2)
  exact ⟨rfl, g1, g2⟩

set_option maxHeartbeats 4000000 in
set_option maxRecDepth 100000 in
theorem c_X9_cut (hC : CAt h w C) (hz : sBz C.1) {x0 : Int32} : Spec l D cA N0 m_X9_cut 6 0 0 [.ref w, .int x0] h (fun r h' => r = some (.int (k_cut C.1.1 x0).1) ∧ CAt h' w (cact C (k_cut C.1.1 x0).1 ((k_cut C.1.1 x0).2, C.1.2)) ∧ Frm h h' w 329) := by
  refine Spec.of (L := [some (.ref w), some (.int x0)]) (by decide) rfl (Nat.le_of_ble_eq_true rfl) ?_
  obtain ⟨r, A, X, a, q, O, B, hR, hW, hV⟩ := hC
  have hC : CAt h w C := ⟨r, A, X, a, q, O, B, hR, hW, hV⟩
  have c0 := hR.1
  have c1 : h.2 (CA w 0) = some (.inr (6, ob6 (sA (w + 1)) (fun _ => C.1.2.2.2))) := hR.2.1.o
  have c2 : h.2 (CA w 1) = some (.inr (2, ob2 A (fun _ => nI C.2.1))) := hR.2.2.1
  have c3 : h.2 (CA w 2) = some (.inr (3, ob3 O (orF C.2.2.2.2 a q))) := hR.2.2.2.2.2.1
  have c4 : h.2 (CA w 3) = some (.inr (4, ob4 (fun k => w + 325 + 1 + k) (fun _ => nI B.2.2.2))) := hR.2.2.2.2.2.2.2.1
  have hG : GmAt h (sA (w + 1) 0) C.1.1 := hR.2.1.2.1
  have g0 := hG.o0
  have hd0 : CA w 0 + 40 ≤ A 1 ∨ A 1 + 40 ≤ CA w 0 := Or.inl (by have := hW.a6; show w + 1 + 40 ≤ A 1; omega)
  refine R_aload_n0 (pc := 0) dX9_cut_0 ?_
  refine G_X9_19 (pc := 1) dX9_cut_1 c0 ?_
  refine R_aload_n0 (pc := 4) dX9_cut_4 ?_
  refine G_X9_10 (pc := 5) dX9_cut_5 c0 ?_
  refine R_callV1 (pc := 8) (T := TX3) cal_X3_keepAside kw254 kw255 kw256 dX9_cut_8 (c_X3_keepAside hR.2.2.1 hR.st6 hR.2.1 hd0 hz) (by decide) (Nat.le_of_ble_eq_true rfl) (ci := 2) rfl c2 ?_
  rintro _ h1 ⟨rfl, e1⟩
  obtain ⟨hR1, hW1, fr1⟩ := hR.aside hW hz e1
  refine R_aload_n0 (pc := 11) dX9_cut_11 ?_
  refine G_X9_19 (pc := 12) dX9_cut_12 hR1.1 ?_
  refine R_aload_n0 (pc := 15) dX9_cut_15 ?_
  refine G_X9_10 (pc := 16) dX9_cut_16 hR1.1 ?_
  refine G_X9_41 (pc := 19) dX9_cut_19 hR1.2.1.o ?_
  refine R_iload_n1 (pc := 22) dX9_cut_22 ?_
  refine R_callV1 (pc := 23) (T := TX1) cal_X1_cutLoose kw660 kw661 kw662 dX9_cut_23 (c_X1_cutLoose hR1.2.1.2.1) (by decide) (Nat.le_of_ble_eq_true rfl) (ci := 1) rfl hR1.2.1.2.1.o0 ?_
  rintro _ h2 ⟨rfl, e2⟩
  obtain ⟨hs2, fr2⟩ := st_gput hR1.2.1 e2
  obtain ⟨hR2, fr2⟩ := hR1.state hW1 hs2 fr2
  refine R_callV1 (pc := 26) (T := TX3) cal_X3_settle kw300 kw301 kw302 dX9_cut_26 (c_X3_settle hR2.2.2.1 (hR2.hr hW1) hW1.h0 (hR2.hst hW1) (hR2.has hW1)) (by decide) (Nat.le_of_ble_eq_true rfl) (ci := 2) rfl hR2.2.2.1 ?_
  rintro _ h3 ⟨rfl, e3⟩
  refine R_iret (pc := 29) rfl rfl dX9_cut_29 ?_
  obtain ⟨g1, g2⟩ := act_fin hR2 hW1 hV e3 (fr1.tr fr2)
  exact ⟨rfl, g1, g2⟩

set_option maxHeartbeats 4000000 in
set_option maxRecDepth 100000 in
theorem c_X9_repair (hC : CAt h w C) (hz : sBz C.1) {x0 x1 : Int32} : Spec l D cA N0 m_X9_repair 6 0 0 [.ref w, .int x0, .int x1] h (fun r h' => r = some (.int (k_mend C.1.1 x0 x1).1) ∧ CAt h' w (cact C (k_mend C.1.1 x0 x1).1 ((k_mend C.1.1 x0 x1).2, C.1.2)) ∧ Frm h h' w 329) := by
  refine Spec.of (L := [some (.ref w), some (.int x0), some (.int x1)]) (by decide) rfl (Nat.le_of_ble_eq_true rfl) ?_
  obtain ⟨r, A, X, a, q, O, B, hR, hW, hV⟩ := hC
  have hC : CAt h w C := ⟨r, A, X, a, q, O, B, hR, hW, hV⟩
  have c0 := hR.1
  have c1 : h.2 (CA w 0) = some (.inr (6, ob6 (sA (w + 1)) (fun _ => C.1.2.2.2))) := hR.2.1.o
  have c2 : h.2 (CA w 1) = some (.inr (2, ob2 A (fun _ => nI C.2.1))) := hR.2.2.1
  have c3 : h.2 (CA w 2) = some (.inr (3, ob3 O (orF C.2.2.2.2 a q))) := hR.2.2.2.2.2.1
  have c4 : h.2 (CA w 3) = some (.inr (4, ob4 (fun k => w + 325 + 1 + k) (fun _ => nI B.2.2.2))) := hR.2.2.2.2.2.2.2.1
  have hG : GmAt h (sA (w + 1) 0) C.1.1 := hR.2.1.2.1
  have g0 := hG.o0
  have hd0 : CA w 0 + 40 ≤ A 1 ∨ A 1 + 40 ≤ CA w 0 := Or.inl (by have := hW.a6; show w + 1 + 40 ≤ A 1; omega)
  refine R_aload_n0 (pc := 0) dX9_repair_0 ?_
  refine G_X9_19 (pc := 1) dX9_repair_1 c0 ?_
  refine R_aload_n0 (pc := 4) dX9_repair_4 ?_
  refine G_X9_10 (pc := 5) dX9_repair_5 c0 ?_
  refine R_callV1 (pc := 8) (T := TX3) cal_X3_keepAside kw254 kw255 kw256 dX9_repair_8 (c_X3_keepAside hR.2.2.1 hR.st6 hR.2.1 hd0 hz) (by decide) (Nat.le_of_ble_eq_true rfl) (ci := 2) rfl c2 ?_
  rintro _ h1 ⟨rfl, e1⟩
  obtain ⟨hR1, hW1, fr1⟩ := hR.aside hW hz e1
  refine R_aload_n0 (pc := 11) dX9_repair_11 ?_
  refine G_X9_19 (pc := 12) dX9_repair_12 hR1.1 ?_
  refine R_aload_n0 (pc := 15) dX9_repair_15 ?_
  refine G_X9_10 (pc := 16) dX9_repair_16 hR1.1 ?_
  refine G_X9_41 (pc := 19) dX9_repair_19 hR1.2.1.o ?_
  refine R_iload_n1 (pc := 22) dX9_repair_22 ?_
  refine R_iload_n2 (pc := 23) dX9_repair_23 ?_
  refine R_callV2 (pc := 24) (T := TX1) cal_X1_mend kw668 kw669 kw670 dX9_repair_24 (c_X1_mend hR1.2.1.2.1) (by decide) (Nat.le_of_ble_eq_true rfl) (ci := 1) rfl hR1.2.1.2.1.o0 ?_
  rintro _ h2 ⟨rfl, e2⟩
  obtain ⟨hs2, fr2⟩ := st_gput hR1.2.1 e2
  obtain ⟨hR2, fr2⟩ := hR1.state hW1 hs2 fr2
  refine R_callV1 (pc := 27) (T := TX3) cal_X3_settle kw300 kw301 kw302 dX9_repair_27 (c_X3_settle hR2.2.2.1 (hR2.hr hW1) hW1.h0 (hR2.hst hW1) (hR2.has hW1)) (by decide) (Nat.le_of_ble_eq_true rfl) (ci := 2) rfl hR2.2.2.1 ?_
  rintro _ h3 ⟨rfl, e3⟩
  refine R_iret (pc := 30) rfl rfl dX9_repair_30 ?_
  obtain ⟨g1, g2⟩ := act_fin hR2 hW1 hV e3 (fr1.tr fr2)
  exact ⟨rfl, g1, g2⟩

set_option maxHeartbeats 4000000 in
set_option maxRecDepth 100000 in
theorem c_X9_end (hC : CAt h w C) (hz : sBz C.1)  : Spec l D cA N0 m_X9_end 6 0 0 [.ref w] h (fun r h' => r = some (.int (k_end C.1.1).1) ∧ CAt h' w (cact C (k_end C.1.1).1 ((k_end C.1.1).2, C.1.2)) ∧ Frm h h' w 329) := by
  refine Spec.of (L := [some (.ref w)]) (by decide) rfl (Nat.le_of_ble_eq_true rfl) ?_
  obtain ⟨r, A, X, a, q, O, B, hR, hW, hV⟩ := hC
  have hC : CAt h w C := ⟨r, A, X, a, q, O, B, hR, hW, hV⟩
  have c0 := hR.1
  have c1 : h.2 (CA w 0) = some (.inr (6, ob6 (sA (w + 1)) (fun _ => C.1.2.2.2))) := hR.2.1.o
  have c2 : h.2 (CA w 1) = some (.inr (2, ob2 A (fun _ => nI C.2.1))) := hR.2.2.1
  have c3 : h.2 (CA w 2) = some (.inr (3, ob3 O (orF C.2.2.2.2 a q))) := hR.2.2.2.2.2.1
  have c4 : h.2 (CA w 3) = some (.inr (4, ob4 (fun k => w + 325 + 1 + k) (fun _ => nI B.2.2.2))) := hR.2.2.2.2.2.2.2.1
  have hG : GmAt h (sA (w + 1) 0) C.1.1 := hR.2.1.2.1
  have g0 := hG.o0
  have hd0 : CA w 0 + 40 ≤ A 1 ∨ A 1 + 40 ≤ CA w 0 := Or.inl (by have := hW.a6; show w + 1 + 40 ≤ A 1; omega)
  refine R_aload_n0 (pc := 0) dX9_end_0 ?_
  refine G_X9_19 (pc := 1) dX9_end_1 c0 ?_
  refine R_aload_n0 (pc := 4) dX9_end_4 ?_
  refine G_X9_10 (pc := 5) dX9_end_5 c0 ?_
  refine R_callV1 (pc := 8) (T := TX3) cal_X3_keepAside kw254 kw255 kw256 dX9_end_8 (c_X3_keepAside hR.2.2.1 hR.st6 hR.2.1 hd0 hz) (by decide) (Nat.le_of_ble_eq_true rfl) (ci := 2) rfl c2 ?_
  rintro _ h1 ⟨rfl, e1⟩
  obtain ⟨hR1, hW1, fr1⟩ := hR.aside hW hz e1
  refine R_aload_n0 (pc := 11) dX9_end_11 ?_
  refine G_X9_19 (pc := 12) dX9_end_12 hR1.1 ?_
  refine R_aload_n0 (pc := 15) dX9_end_15 ?_
  refine G_X9_10 (pc := 16) dX9_end_16 hR1.1 ?_
  refine G_X9_41 (pc := 19) dX9_end_19 hR1.2.1.o ?_
  refine R_callV0 (pc := 22) (T := TX1) cal_X1_endTurn kw277 kw278 kw279 dX9_end_22 (c_X1_endTurn hR1.2.1.2.1) (by decide) (Nat.le_of_ble_eq_true rfl) (ci := 1) rfl hR1.2.1.2.1.o0 ?_
  rintro _ h2 ⟨rfl, e2⟩
  obtain ⟨hs2, fr2⟩ := st_gput hR1.2.1 e2
  obtain ⟨hR2, fr2⟩ := hR1.state hW1 hs2 fr2
  refine R_callV1 (pc := 25) (T := TX3) cal_X3_settle kw300 kw301 kw302 dX9_end_25 (c_X3_settle hR2.2.2.1 (hR2.hr hW1) hW1.h0 (hR2.hst hW1) (hR2.has hW1)) (by decide) (Nat.le_of_ble_eq_true rfl) (ci := 2) rfl hR2.2.2.1 ?_
  rintro _ h3 ⟨rfl, e3⟩
  refine R_iret (pc := 28) rfl rfl dX9_end_28 ?_
  obtain ⟨g1, g2⟩ := act_fin hR2 hW1 hV e3 (fr1.tr fr2)
  exact ⟨rfl, g1, g2⟩

set_option maxHeartbeats 4000000 in
set_option maxRecDepth 100000 in
theorem c_X9_addShip (hC : CAt h w C) (hz : sBz C.1) {n : Nat} (hn : n ≤ 8) (hcn : C.1.1.1 4 = nI n) {x0 x1 x2 x3 x4 x5 : Int32} : Spec l D cA N0 m_X9_addShip 6 0 0 [.ref w, .int x0, .int x1, .int x2, .int x3, .int x4, .int x5] h (fun r h' => r = some (.int (k_launch C.1.1 n x0 x1 x2 x3 x4 x5).1) ∧ CAt h' w (cact C (k_launch C.1.1 n x0 x1 x2 x3 x4 x5).1 ((k_launch C.1.1 n x0 x1 x2 x3 x4 x5).2, C.1.2)) ∧ Frm h h' w 329) := by
  refine Spec.of (L := [some (.ref w), some (.int x0), some (.int x1), some (.int x2), some (.int x3), some (.int x4), some (.int x5)]) (by decide) rfl (Nat.le_of_ble_eq_true rfl) ?_
  obtain ⟨r, A, X, a, q, O, B, hR, hW, hV⟩ := hC
  have hC : CAt h w C := ⟨r, A, X, a, q, O, B, hR, hW, hV⟩
  have c0 := hR.1
  have c1 : h.2 (CA w 0) = some (.inr (6, ob6 (sA (w + 1)) (fun _ => C.1.2.2.2))) := hR.2.1.o
  have c2 : h.2 (CA w 1) = some (.inr (2, ob2 A (fun _ => nI C.2.1))) := hR.2.2.1
  have c3 : h.2 (CA w 2) = some (.inr (3, ob3 O (orF C.2.2.2.2 a q))) := hR.2.2.2.2.2.1
  have c4 : h.2 (CA w 3) = some (.inr (4, ob4 (fun k => w + 325 + 1 + k) (fun _ => nI B.2.2.2))) := hR.2.2.2.2.2.2.2.1
  have hG : GmAt h (sA (w + 1) 0) C.1.1 := hR.2.1.2.1
  have g0 := hG.o0
  have hd0 : CA w 0 + 40 ≤ A 1 ∨ A 1 + 40 ≤ CA w 0 := Or.inl (by have := hW.a6; show w + 1 + 40 ≤ A 1; omega)
  refine R_aload_n0 (pc := 0) dX9_addShip_0 ?_
  refine G_X9_19 (pc := 1) dX9_addShip_1 c0 ?_
  refine R_aload_n0 (pc := 4) dX9_addShip_4 ?_
  refine G_X9_10 (pc := 5) dX9_addShip_5 c0 ?_
  refine R_callV1 (pc := 8) (T := TX3) cal_X3_keepAside kw254 kw255 kw256 dX9_addShip_8 (c_X3_keepAside hR.2.2.1 hR.st6 hR.2.1 hd0 hz) (by decide) (Nat.le_of_ble_eq_true rfl) (ci := 2) rfl c2 ?_
  rintro _ h1 ⟨rfl, e1⟩
  obtain ⟨hR1, hW1, fr1⟩ := hR.aside hW hz e1
  refine R_aload_n0 (pc := 11) dX9_addShip_11 ?_
  refine G_X9_19 (pc := 12) dX9_addShip_12 hR1.1 ?_
  refine R_aload_n0 (pc := 15) dX9_addShip_15 ?_
  refine G_X9_10 (pc := 16) dX9_addShip_16 hR1.1 ?_
  refine G_X9_41 (pc := 19) dX9_addShip_19 hR1.2.1.o ?_
  refine R_iload_n1 (pc := 22) dX9_addShip_22 ?_
  refine R_iload_n2 (pc := 23) dX9_addShip_23 ?_
  refine R_iload_n3 (pc := 24) dX9_addShip_24 ?_
  refine R_iload4 (pc := 25) dX9_addShip_25 ?_
  refine R_iload5 (pc := 27) dX9_addShip_27 ?_
  refine R_iload6 (pc := 29) dX9_addShip_29 ?_
  refine R_callV6 (pc := 31) (T := TX1) cal_X1_launch kw428 kw429 kw430 dX9_addShip_31 (c_X1_launch hR1.2.1.2.1 hn hcn) (by decide) (Nat.le_of_ble_eq_true rfl) (ci := 1) rfl hR1.2.1.2.1.o0 ?_
  rintro _ h2 ⟨rfl, e2⟩
  obtain ⟨hs2, fr2⟩ := st_gput hR1.2.1 e2
  obtain ⟨hR2, fr2⟩ := hR1.state hW1 hs2 fr2
  refine R_callV1 (pc := 34) (T := TX3) cal_X3_settle kw300 kw301 kw302 dX9_addShip_34 (c_X3_settle hR2.2.2.1 (hR2.hr hW1) hW1.h0 (hR2.hst hW1) (hR2.has hW1)) (by decide) (Nat.le_of_ble_eq_true rfl) (ci := 2) rfl hR2.2.2.1 ?_
  rintro _ h3 ⟨rfl, e3⟩
  refine R_iret (pc := 37) rfl rfl dX9_addShip_37 ?_
  obtain ⟨g1, g2⟩ := act_fin hR2 hW1 hV e3 (fr1.tr fr2)
  exact ⟨rfl, g1, g2⟩

set_option maxHeartbeats 4000000 in
set_option maxRecDepth 100000 in
theorem c_X9_grapple (hC : CAt h w C) (hz : sBz C.1) (hx : ∀ i, i < 8 → 0 ≤ shF C.1.1 i 2 ∧ shF C.1.1 i 2 < 81) {x0 x1 : Int32} : Spec l D cA N0 m_X9_grapple 6 0 0 [.ref w, .int x0, .int x1] h (fun r h' => r = some (.int (k_grap C.1.1 x0 x1).1) ∧ CAt h' w (cact C (k_grap C.1.1 x0 x1).1 ((k_grap C.1.1 x0 x1).2, C.1.2)) ∧ Frm h h' w 329) := by
  refine Spec.of (L := [some (.ref w), some (.int x0), some (.int x1)]) (by decide) rfl (Nat.le_of_ble_eq_true rfl) ?_
  obtain ⟨r, A, X, a, q, O, B, hR, hW, hV⟩ := hC
  have hC : CAt h w C := ⟨r, A, X, a, q, O, B, hR, hW, hV⟩
  have c0 := hR.1
  have c1 : h.2 (CA w 0) = some (.inr (6, ob6 (sA (w + 1)) (fun _ => C.1.2.2.2))) := hR.2.1.o
  have c2 : h.2 (CA w 1) = some (.inr (2, ob2 A (fun _ => nI C.2.1))) := hR.2.2.1
  have c3 : h.2 (CA w 2) = some (.inr (3, ob3 O (orF C.2.2.2.2 a q))) := hR.2.2.2.2.2.1
  have c4 : h.2 (CA w 3) = some (.inr (4, ob4 (fun k => w + 325 + 1 + k) (fun _ => nI B.2.2.2))) := hR.2.2.2.2.2.2.2.1
  have hG : GmAt h (sA (w + 1) 0) C.1.1 := hR.2.1.2.1
  have g0 := hG.o0
  have hd0 : CA w 0 + 40 ≤ A 1 ∨ A 1 + 40 ≤ CA w 0 := Or.inl (by have := hW.a6; show w + 1 + 40 ≤ A 1; omega)
  refine R_aload_n0 (pc := 0) dX9_grapple_0 ?_
  refine G_X9_19 (pc := 1) dX9_grapple_1 c0 ?_
  refine R_aload_n0 (pc := 4) dX9_grapple_4 ?_
  refine G_X9_10 (pc := 5) dX9_grapple_5 c0 ?_
  refine R_callV1 (pc := 8) (T := TX3) cal_X3_keepAside kw254 kw255 kw256 dX9_grapple_8 (c_X3_keepAside hR.2.2.1 hR.st6 hR.2.1 hd0 hz) (by decide) (Nat.le_of_ble_eq_true rfl) (ci := 2) rfl c2 ?_
  rintro _ h1 ⟨rfl, e1⟩
  obtain ⟨hR1, hW1, fr1⟩ := hR.aside hW hz e1
  refine R_aload_n0 (pc := 11) dX9_grapple_11 ?_
  refine G_X9_19 (pc := 12) dX9_grapple_12 hR1.1 ?_
  refine R_aload_n0 (pc := 15) dX9_grapple_15 ?_
  refine G_X9_10 (pc := 16) dX9_grapple_16 hR1.1 ?_
  refine G_X9_41 (pc := 19) dX9_grapple_19 hR1.2.1.o ?_
  refine R_iload_n1 (pc := 22) dX9_grapple_22 ?_
  refine R_iload_n2 (pc := 23) dX9_grapple_23 ?_
  refine R_callV2 (pc := 24) (T := TX1) cal_X1_grappleTwo kw647 kw648 kw649 dX9_grapple_24 (c_X1_grappleTwo hR1.2.1.2.1 hx) (by decide) (Nat.le_of_ble_eq_true rfl) (ci := 1) rfl hR1.2.1.2.1.o0 ?_
  rintro _ h2 ⟨rfl, e2⟩
  obtain ⟨hs2, fr2⟩ := st_gput hR1.2.1 e2
  obtain ⟨hR2, fr2⟩ := hR1.state hW1 hs2 fr2
  refine R_callV1 (pc := 27) (T := TX3) cal_X3_settle kw300 kw301 kw302 dX9_grapple_27 (c_X3_settle hR2.2.2.1 (hR2.hr hW1) hW1.h0 (hR2.hst hW1) (hR2.has hW1)) (by decide) (Nat.le_of_ble_eq_true rfl) (ci := 2) rfl hR2.2.2.1 ?_
  rintro _ h3 ⟨rfl, e3⟩
  refine R_iret (pc := 30) rfl rfl dX9_grapple_30 ?_
  obtain ⟨g1, g2⟩ := act_fin hR2 hW1 hV e3 (fr1.tr fr2)
  exact ⟨rfl, g1, g2⟩

set_option maxHeartbeats 4000000 in
set_option maxRecDepth 100000 in
theorem c_X9_take (hC : CAt h w C) (hz : sBz C.1) {x0 : Int32} : Spec l D cA N0 m_X9_take 6 0 0 [.ref w, .int x0] h (fun r h' => r = some (.int (s_fill C.1 x0).1) ∧ CAt h' w (cact C (s_fill C.1 x0).1 (s_fill C.1 x0).2) ∧ Frm h h' w 329) := by
  refine Spec.of (L := [some (.ref w), some (.int x0)]) (by decide) rfl (Nat.le_of_ble_eq_true rfl) ?_
  obtain ⟨r, A, X, a, q, O, B, hR, hW, hV⟩ := hC
  have hC : CAt h w C := ⟨r, A, X, a, q, O, B, hR, hW, hV⟩
  have c0 := hR.1
  have c1 : h.2 (CA w 0) = some (.inr (6, ob6 (sA (w + 1)) (fun _ => C.1.2.2.2))) := hR.2.1.o
  have c2 : h.2 (CA w 1) = some (.inr (2, ob2 A (fun _ => nI C.2.1))) := hR.2.2.1
  have c3 : h.2 (CA w 2) = some (.inr (3, ob3 O (orF C.2.2.2.2 a q))) := hR.2.2.2.2.2.1
  have c4 : h.2 (CA w 3) = some (.inr (4, ob4 (fun k => w + 325 + 1 + k) (fun _ => nI B.2.2.2))) := hR.2.2.2.2.2.2.2.1
  have hG : GmAt h (sA (w + 1) 0) C.1.1 := hR.2.1.2.1
  have g0 := hG.o0
  have hd0 : CA w 0 + 40 ≤ A 1 ∨ A 1 + 40 ≤ CA w 0 := Or.inl (by have := hW.a6; show w + 1 + 40 ≤ A 1; omega)
  refine R_aload_n0 (pc := 0) dX9_take_0 ?_
  refine G_X9_19 (pc := 1) dX9_take_1 c0 ?_
  refine R_aload_n0 (pc := 4) dX9_take_4 ?_
  refine G_X9_10 (pc := 5) dX9_take_5 c0 ?_
  refine R_callV1 (pc := 8) (T := TX3) cal_X3_keepAside kw254 kw255 kw256 dX9_take_8 (c_X3_keepAside hR.2.2.1 hR.st6 hR.2.1 hd0 hz) (by decide) (Nat.le_of_ble_eq_true rfl) (ci := 2) rfl c2 ?_
  rintro _ h1 ⟨rfl, e1⟩
  obtain ⟨hR1, hW1, fr1⟩ := hR.aside hW hz e1
  refine R_aload_n0 (pc := 11) dX9_take_11 ?_
  refine G_X9_19 (pc := 12) dX9_take_12 hR1.1 ?_
  refine R_aload_n0 (pc := 15) dX9_take_15 ?_
  refine G_X9_10 (pc := 16) dX9_take_16 hR1.1 ?_
  refine R_iload_n1 (pc := 19) dX9_take_19 ?_
  refine R_callV1 (pc := 20) (T := TX8) cal_X8_fillSlot kw311 kw312 kw313 dX9_take_20 (c_X8_fillSlot hR1.2.1 hz) (by decide) (Nat.le_of_ble_eq_true rfl) (ci := 6) rfl hR1.2.1.o ?_
  rintro _ h2 ⟨rfl, hs2, fr2⟩
  obtain ⟨hR2, fr2⟩ := hR1.state hW1 hs2 fr2
  refine R_callV1 (pc := 23) (T := TX3) cal_X3_settle kw300 kw301 kw302 dX9_take_23 (c_X3_settle hR2.2.2.1 (hR2.hr hW1) hW1.h0 (hR2.hst hW1) (hR2.has hW1)) (by decide) (Nat.le_of_ble_eq_true rfl) (ci := 2) rfl hR2.2.2.1 ?_
  rintro _ h3 ⟨rfl, e3⟩
  refine R_iret (pc := 26) rfl rfl dX9_take_26 ?_
  obtain ⟨g1, g2⟩ := act_fin hR2 hW1 hV e3 (fr1.tr fr2)
  exact ⟨rfl, g1, g2⟩

set_option maxHeartbeats 4000000 in
set_option maxRecDepth 100000 in
theorem c_X9_restore (hC : CAt h w C) (hz : sBz C.1) {x0 : Int32} : Spec l D cA N0 m_X9_restore 6 0 0 [.ref w, .int x0] h (fun r h' => r = some (.int (s_resume C.1 x0).1) ∧ CAt h' w (cact C (s_resume C.1 x0).1 (s_resume C.1 x0).2) ∧ Frm h h' w 329) := by
  refine Spec.of (L := [some (.ref w), some (.int x0)]) (by decide) rfl (Nat.le_of_ble_eq_true rfl) ?_
  obtain ⟨r, A, X, a, q, O, B, hR, hW, hV⟩ := hC
  have hC : CAt h w C := ⟨r, A, X, a, q, O, B, hR, hW, hV⟩
  have c0 := hR.1
  have c1 : h.2 (CA w 0) = some (.inr (6, ob6 (sA (w + 1)) (fun _ => C.1.2.2.2))) := hR.2.1.o
  have c2 : h.2 (CA w 1) = some (.inr (2, ob2 A (fun _ => nI C.2.1))) := hR.2.2.1
  have c3 : h.2 (CA w 2) = some (.inr (3, ob3 O (orF C.2.2.2.2 a q))) := hR.2.2.2.2.2.1
  have c4 : h.2 (CA w 3) = some (.inr (4, ob4 (fun k => w + 325 + 1 + k) (fun _ => nI B.2.2.2))) := hR.2.2.2.2.2.2.2.1
  have hG : GmAt h (sA (w + 1) 0) C.1.1 := hR.2.1.2.1
  have g0 := hG.o0
  have hd0 : CA w 0 + 40 ≤ A 1 ∨ A 1 + 40 ≤ CA w 0 := Or.inl (by have := hW.a6; show w + 1 + 40 ≤ A 1; omega)
  refine R_aload_n0 (pc := 0) dX9_restore_0 ?_
  refine G_X9_19 (pc := 1) dX9_restore_1 c0 ?_
  refine R_aload_n0 (pc := 4) dX9_restore_4 ?_
  refine G_X9_10 (pc := 5) dX9_restore_5 c0 ?_
  refine R_callV1 (pc := 8) (T := TX3) cal_X3_keepAside kw254 kw255 kw256 dX9_restore_8 (c_X3_keepAside hR.2.2.1 hR.st6 hR.2.1 hd0 hz) (by decide) (Nat.le_of_ble_eq_true rfl) (ci := 2) rfl c2 ?_
  rintro _ h1 ⟨rfl, e1⟩
  obtain ⟨hR1, hW1, fr1⟩ := hR.aside hW hz e1
  refine R_aload_n0 (pc := 11) dX9_restore_11 ?_
  refine G_X9_19 (pc := 12) dX9_restore_12 hR1.1 ?_
  refine R_aload_n0 (pc := 15) dX9_restore_15 ?_
  refine G_X9_10 (pc := 16) dX9_restore_16 hR1.1 ?_
  refine R_iload_n1 (pc := 19) dX9_restore_19 ?_
  refine R_callV1 (pc := 20) (T := TX8) cal_X8_resumeSlot kw327 kw328 kw329 dX9_restore_20 (c_X8_resumeSlot hR1.2.1 hz) (by decide) (Nat.le_of_ble_eq_true rfl) (ci := 6) rfl hR1.2.1.o ?_
  rintro _ h2 ⟨rfl, hs2, fr2⟩
  obtain ⟨hR2, fr2⟩ := hR1.state hW1 hs2 fr2
  refine R_callV1 (pc := 23) (T := TX3) cal_X3_settle kw300 kw301 kw302 dX9_restore_23 (c_X3_settle hR2.2.2.1 (hR2.hr hW1) hW1.h0 (hR2.hst hW1) (hR2.has hW1)) (by decide) (Nat.le_of_ble_eq_true rfl) (ci := 2) rfl hR2.2.2.1 ?_
  rintro _ h3 ⟨rfl, e3⟩
  refine R_iret (pc := 26) rfl rfl dX9_restore_26 ?_
  obtain ⟨g1, g2⟩ := act_fin hR2 hW1 hV e3 (fr1.tr fr2)
  exact ⟨rfl, g1, g2⟩

set_option maxHeartbeats 4000000 in
set_option maxRecDepth 100000 in
theorem c_X9_undo (hC : CAt h w C)  : Spec l D cA N0 m_X9_undo 6 0 0 [.ref w] h (fun r h' => r = some (.int (cundo C).1) ∧ CAt h' w (cundo C).2 ∧ Frm h h' w 329) := by
  refine Spec.of (L := [some (.ref w)]) (by decide) rfl (Nat.le_of_ble_eq_true rfl) ?_
  obtain ⟨r, A, X, a, q, O, B, hR, hW, hV⟩ := hC
  have hC : CAt h w C := ⟨r, A, X, a, q, O, B, hR, hW, hV⟩
  have c0 := hR.1
  have c1 : h.2 (CA w 0) = some (.inr (6, ob6 (sA (w + 1)) (fun _ => C.1.2.2.2))) := hR.2.1.o
  have c2 : h.2 (CA w 1) = some (.inr (2, ob2 A (fun _ => nI C.2.1))) := hR.2.2.1
  have c3 : h.2 (CA w 2) = some (.inr (3, ob3 O (orF C.2.2.2.2 a q))) := hR.2.2.2.2.2.1
  have c4 : h.2 (CA w 3) = some (.inr (4, ob4 (fun k => w + 325 + 1 + k) (fun _ => nI B.2.2.2))) := hR.2.2.2.2.2.2.2.1
  have hG : GmAt h (sA (w + 1) 0) C.1.1 := hR.2.1.2.1
  have g0 := hG.o0
  have hd0 : CA w 0 + 40 ≤ A 1 ∨ A 1 + 40 ≤ CA w 0 := Or.inl (by have := hW.a6; show w + 1 + 40 ≤ A 1; omega)
  have v0 : StAt h (r 0) (X 0) := hR.2.2.2.2.1 0 (by decide)
  refine R_aload_n0 (pc := 0) dX9_undo_0 ?_
  refine G_X9_19 (pc := 1) dX9_undo_1 (by assumption) ?_
  refine R_aload_n0 (pc := 4) dX9_undo_4 ?_
  refine G_X9_10 (pc := 5) dX9_undo_5 (by assumption) ?_
  refine R_callV1 (pc := 8) (T := TX3) cal_X3_stepBack kw335 kw336 kw337 dX9_undo_8 (c_X3_stepBack hR.2.2.1 (hR.hr hW) hW.h0 (hR.hst hW) hR.2.1 v0 (hW.2.2.2.2.2.2 0 (by decide)) (Or.inr (show w + 1 + 40 ≤ w + 41 by omega)) (Or.inr (show w + 1 + 40 ≤ A 0 by rw [hW.2.2.1]; omega)) (fun j hj => Or.inr (show w + 1 + 40 ≤ r j by have := hW.rr hj; omega))) (by decide) (Nat.le_of_ble_eq_true rfl) (ci := 2) rfl c2 ?_
  rintro r8 h1 ⟨u1, u2⟩
  by_cases hn : C.2.1 = 0
  · obtain ⟨rfl, e1⟩ := u1 (show nI C.2.1 = 0 by rw [hn]; rfl)
    refine R_iret (pc := 11) rfl rfl dX9_undo_11 ?_
    rw [cundo, if_pos hn, e1]
    exact ⟨rfl, hC, Frm.rf _ _ _⟩
  obtain ⟨rfl, e1⟩ := u2 (show ¬ nI C.2.1 = 0 from fun z => hn ((nI_eq (by have := hW.1; omega) (by decide)).mp z))
  refine R_iret (pc := 11) rfl rfl dX9_undo_11 ?_
  obtain ⟨g1, g2, g3⟩ := hR.back hW hn e1
  rw [cundo, if_neg hn, ← hV 0 (Nat.pos_of_ne_zero hn)]
  refine ⟨?_, ⟨_, _, _, _, _, _, _, g1, g2, fun j hj => ?_⟩, g3⟩
  · obtain ⟨k, hk⟩ : ∃ k, C.2.1 = k + 1 := ⟨C.2.1 - 1, by omega⟩
    rw [hk]
    exact congrArg (fun z => some (Value.int z)) (nI_p k)
  · have hj : j < C.2.1 - 1 := hj
    have := hW.1
    show (if j < 5 then X (j + 1) else if j = 5 then X 0 else X j) = C.2.2.1 (j + 1)
    rw [if_pos (by omega), hV _ (by omega)]



set_option maxHeartbeats 4000000 in
set_option maxRecDepth 100000 in
theorem c_X9_captain (hC : CAt h w C) {x0 x1 : Int32} : Spec l D cA N0 m_X9_captain 6 0 0 [.ref w, .int x0, .int x1] h (fun r h' => r = some (.int (p_cap C x0 x1)) ∧ CAt h' w C ∧ Frm h h' w 329) := by
  refine Spec.of (L := [some (.ref w), some (.int x0), some (.int x1)]) (by decide) rfl (Nat.le_of_ble_eq_true rfl) ?_
  obtain ⟨r, A, X, a, q, O, B, hR, hW, hV⟩ := hC
  have hC : CAt h w C := ⟨r, A, X, a, q, O, B, hR, hW, hV⟩
  have c0 := hR.1
  have c1 : h.2 (CA w 0) = some (.inr (6, ob6 (sA (w + 1)) (fun _ => C.1.2.2.2))) := hR.2.1.o
  have c2 : h.2 (CA w 1) = some (.inr (2, ob2 A (fun _ => nI C.2.1))) := hR.2.2.1
  have c3 : h.2 (CA w 2) = some (.inr (3, ob3 O (orF C.2.2.2.2 a q))) := hR.2.2.2.2.2.1
  have c4 : h.2 (CA w 3) = some (.inr (4, ob4 (fun k => w + 325 + 1 + k) (fun _ => nI B.2.2.2))) := hR.2.2.2.2.2.2.2.1
  have hG : GmAt h (sA (w + 1) 0) C.1.1 := hR.2.1.2.1
  have g0 := hG.o0
  have hd0 : CA w 0 + 40 ≤ A 1 ∨ A 1 + 40 ≤ CA w 0 := Or.inl (by have := hW.a6; show w + 1 + 40 ≤ A 1; omega)
  refine R_iload_n1 (pc := 0) dX9_captain_0 ?_
  refine R_callS1 (pc := 1) cal_X0_exists kw381 kw382 dX9_captain_1 c_X0_exists (by decide) (Nat.le_of_ble_eq_true rfl) ?_
  rintro _ _ ⟨rfl, rfl⟩
  refine R_ifb_eq (pc := 4) 22 dX9_captain_4 (by decide) (fun c_4 => ?_) (fun c_4 => ?_)
  · skip
    refine R_iconst (pc := 22) (v := (-1)) dX9_captain_22 (by decide) ?_
    refine R_iret (pc := 23) rfl rfl dX9_captain_23 ?_
    exact ⟨congrArg (fun z => some (Value.int z)) (by simp (decide := true) only [p_cap, c_4, reduceCtorEq, if_true, if_false, reduceIte, and_true, true_and, and_false, false_and, and_self, or_true, true_or, or_false, false_or, or_self, not_true, not_false_iff]), hC, Frm.rf _ _ _⟩
  · skip
    refine R_aload_n0 (pc := 7) dX9_captain_7 ?_
    refine G_X9_10 (pc := 8) dX9_captain_8 (by assumption) ?_
    refine G_X9_41 (pc := 11) dX9_captain_11 (by assumption) ?_
    refine R_iload_n1 (pc := 14) dX9_captain_14 ?_
    refine R_iload_n2 (pc := 15) dX9_captain_15 ?_
    refine R_callV2 (pc := 16) (T := TX1) cal_X1_tellOfCaptain kw478 kw479 kw480 dX9_captain_16 (c_X1_tellOfCaptain hG) (by decide) (Nat.le_of_ble_eq_true rfl) (ci := 1) rfl (by assumption) ?_
    rintro _ _ ⟨rfl, rfl⟩
    refine R_goto (pc := 19) 23 dX9_captain_19 (by decide) ?_
    refine R_iret (pc := 23) rfl rfl dX9_captain_23 ?_
    exact ⟨congrArg (fun z => some (Value.int z)) (by simp (decide := true) only [p_cap, c_4, reduceCtorEq, if_true, if_false, reduceIte, and_true, true_and, and_false, false_and, and_self, or_true, true_or, or_false, false_or, or_self, not_true, not_false_iff]), hC, Frm.rf _ _ _⟩

set_option maxHeartbeats 4000000 in
set_option maxRecDepth 100000 in
theorem c_X9_ship (hC : CAt h w C) {x0 x1 : Int32} : Spec l D cA N0 m_X9_ship 6 0 0 [.ref w, .int x0, .int x1] h (fun r h' => r = some (.int (p_ship C x0 x1)) ∧ CAt h' w C ∧ Frm h h' w 329) := by
  refine Spec.of (L := [some (.ref w), some (.int x0), some (.int x1), none]) (by decide) rfl (Nat.le_of_ble_eq_true rfl) ?_
  obtain ⟨r, A, X, a, q, O, B, hR, hW, hV⟩ := hC
  have hC : CAt h w C := ⟨r, A, X, a, q, O, B, hR, hW, hV⟩
  have c0 := hR.1
  have c1 : h.2 (CA w 0) = some (.inr (6, ob6 (sA (w + 1)) (fun _ => C.1.2.2.2))) := hR.2.1.o
  have c2 : h.2 (CA w 1) = some (.inr (2, ob2 A (fun _ => nI C.2.1))) := hR.2.2.1
  have c3 : h.2 (CA w 2) = some (.inr (3, ob3 O (orF C.2.2.2.2 a q))) := hR.2.2.2.2.2.1
  have c4 : h.2 (CA w 3) = some (.inr (4, ob4 (fun k => w + 325 + 1 + k) (fun _ => nI B.2.2.2))) := hR.2.2.2.2.2.2.2.1
  have hG : GmAt h (sA (w + 1) 0) C.1.1 := hR.2.1.2.1
  have g0 := hG.o0
  have hd0 : CA w 0 + 40 ≤ A 1 ∨ A 1 + 40 ≤ CA w 0 := Or.inl (by have := hW.a6; show w + 1 + 40 ≤ A 1; omega)
  refine R_aload_n0 (pc := 0) dX9_ship_0 ?_
  refine G_X9_10 (pc := 1) dX9_ship_1 (by assumption) ?_
  refine G_X9_41 (pc := 4) dX9_ship_4 (by assumption) ?_
  refine R_iload_n1 (pc := 7) dX9_ship_7 ?_
  refine R_callV1 (pc := 8) (T := TX1) cal_X1_known kw444 kw282 kw283 dX9_ship_8 (c_X1_known (by assumption)) (by decide) (Nat.le_of_ble_eq_true rfl) (ci := 1) rfl (by assumption) ?_
  rintro _ _ ⟨⟨z8, hz8, rfl⟩, rfl⟩
  rcases k_known_cases _ _ with ⟨kv8, kz8⟩ | ⟨k8, kl8, kx8, kv8, kz8⟩ <;> (rw [kz8] at hz8; subst hz8)
  · skip
    refine R_astoreN_n3 (pc := 11) dX9_ship_11 rfl (by decide) ?_
    refine R_aloadN_n3 (pc := 12) dX9_ship_12 ?_
    refine R_ifnonnullN (pc := 13) dX9_ship_13 ?_
    refine R_iconst (pc := 16) (v := (-1)) dX9_ship_16 (by decide) ?_
    refine R_goto (pc := 17) 32 dX9_ship_17 (by decide) ?_
    refine R_iret (pc := 32) rfl rfl dX9_ship_32 ?_
    exact ⟨congrArg (fun z => some (Value.int z)) (by simp (decide := true) only [p_ship, kz8, reduceCtorEq, if_true, if_false, reduceIte, and_true, true_and, and_false, false_and, and_self, or_true, true_or, or_false, false_or, or_self, not_true, not_false_iff]), hC, Frm.rf _ _ _⟩
  · skip
    have kg8 := hG.sh kl8
    refine R_astore_n3 (pc := 11) dX9_ship_11 rfl (by decide) ?_
    refine R_aload_n3 (pc := 12) dX9_ship_12 ?_
    refine R_ifnonnull (pc := 13) 20 dX9_ship_13 (by decide) ?_
    refine R_aload_n0 (pc := 20) dX9_ship_20 ?_
    refine G_X9_10 (pc := 21) dX9_ship_21 (by assumption) ?_
    refine G_X9_41 (pc := 24) dX9_ship_24 (by assumption) ?_
    refine R_aload_n3 (pc := 27) dX9_ship_27 ?_
    refine R_iload_n2 (pc := 28) dX9_ship_28 ?_
    refine R_callV2 (pc := 29) (T := TX1) cal_X1_tellOfShip kw445 kw446 kw447 dX9_ship_29 (c_X1_tellOfShip hG (by assumption)) (by decide) (Nat.le_of_ble_eq_true rfl) (ci := 1) rfl (by assumption) ?_
    rintro _ _ ⟨rfl, rfl⟩
    refine R_iret (pc := 32) rfl rfl dX9_ship_32 ?_
    exact ⟨congrArg (fun z => some (Value.int z)) (by simp (decide := true) only [p_ship, kz8, reduceCtorEq, if_true, if_false, reduceIte, and_true, true_and, and_false, false_and, and_self, or_true, true_or, or_false, false_or, or_self, not_true, not_false_iff]), hC, Frm.rf _ _ _⟩

set_option maxHeartbeats 4000000 in
set_option maxRecDepth 100000 in
theorem c_X9_on (hC : CAt h w C) {x0 : Int32} : Spec l D cA N0 m_X9_on 6 0 0 [.ref w, .int x0] h (fun r h' => r = some (.int (p_on C x0)) ∧ CAt h' w C ∧ Frm h h' w 329) := by
  refine Spec.of (L := [some (.ref w), some (.int x0)]) (by decide) rfl (Nat.le_of_ble_eq_true rfl) ?_
  obtain ⟨r, A, X, a, q, O, B, hR, hW, hV⟩ := hC
  have hC : CAt h w C := ⟨r, A, X, a, q, O, B, hR, hW, hV⟩
  have c0 := hR.1
  have c1 : h.2 (CA w 0) = some (.inr (6, ob6 (sA (w + 1)) (fun _ => C.1.2.2.2))) := hR.2.1.o
  have c2 : h.2 (CA w 1) = some (.inr (2, ob2 A (fun _ => nI C.2.1))) := hR.2.2.1
  have c3 : h.2 (CA w 2) = some (.inr (3, ob3 O (orF C.2.2.2.2 a q))) := hR.2.2.2.2.2.1
  have c4 : h.2 (CA w 3) = some (.inr (4, ob4 (fun k => w + 325 + 1 + k) (fun _ => nI B.2.2.2))) := hR.2.2.2.2.2.2.2.1
  have hG : GmAt h (sA (w + 1) 0) C.1.1 := hR.2.1.2.1
  have g0 := hG.o0
  have hd0 : CA w 0 + 40 ≤ A 1 ∨ A 1 + 40 ≤ CA w 0 := Or.inl (by have := hW.a6; show w + 1 + 40 ≤ A 1; omega)
  refine R_iload_n1 (pc := 0) dX9_on_0 ?_
  refine R_callS1 (pc := 1) cal_X2_exists kw415 kw405 dX9_on_1 c_X2_exists (by decide) (Nat.le_of_ble_eq_true rfl) ?_
  rintro _ _ ⟨rfl, rfl⟩
  refine R_ifb_eq (pc := 4) 21 dX9_on_4 (by decide) (fun c_4 => ?_) (fun c_4 => ?_)
  · skip
    refine R_iconst (pc := 21) (v := (-1)) dX9_on_21 (by decide) ?_
    refine R_iret (pc := 22) rfl rfl dX9_on_22 ?_
    exact ⟨congrArg (fun z => some (Value.int z)) (by simp (decide := true) only [p_on, c_4, reduceCtorEq, if_true, if_false, reduceIte, and_true, true_and, and_false, false_and, and_self, or_true, true_or, or_false, false_or, or_self, not_true, not_false_iff]), hC, Frm.rf _ _ _⟩
  · skip
    refine R_aload_n0 (pc := 7) dX9_on_7 ?_
    refine G_X9_10 (pc := 8) dX9_on_8 (by assumption) ?_
    refine G_X9_41 (pc := 11) dX9_on_11 (by assumption) ?_
    refine R_iload_n1 (pc := 14) dX9_on_14 ?_
    refine R_callV1 (pc := 15) (T := TX1) cal_X1_contentOf kw416 kw417 kw418 dX9_on_15 (c_X1_contentOf hG) (by decide) (Nat.le_of_ble_eq_true rfl) (ci := 1) rfl (by assumption) ?_
    rintro _ _ ⟨rfl, rfl⟩
    refine R_goto (pc := 18) 22 dX9_on_18 (by decide) ?_
    refine R_iret (pc := 22) rfl rfl dX9_on_22 ?_
    exact ⟨congrArg (fun z => some (Value.int z)) (by simp (decide := true) only [p_on, c_4, reduceCtorEq, if_true, if_false, reduceIte, and_true, true_and, and_false, false_and, and_self, or_true, true_or, or_false, false_or, or_self, not_true, not_false_iff]), hC, Frm.rf _ _ _⟩

set_option maxHeartbeats 4000000 in
set_option maxRecDepth 100000 in
theorem c_X9_targets (hC : CAt h w C) {x0 x1 : Int32} : Spec l D cA N0 m_X9_targets 6 0 0 [.ref w, .int x0, .int x1] h (fun r h' => r = some (.int (p_targets C x0 x1)) ∧ CAt h' w C ∧ Frm h h' w 329) := by
  refine Spec.of (L := [some (.ref w), some (.int x0), some (.int x1), none]) (by decide) rfl (Nat.le_of_ble_eq_true rfl) ?_
  obtain ⟨r, A, X, a, q, O, B, hR, hW, hV⟩ := hC
  have hC : CAt h w C := ⟨r, A, X, a, q, O, B, hR, hW, hV⟩
  have c0 := hR.1
  have c1 : h.2 (CA w 0) = some (.inr (6, ob6 (sA (w + 1)) (fun _ => C.1.2.2.2))) := hR.2.1.o
  have c2 : h.2 (CA w 1) = some (.inr (2, ob2 A (fun _ => nI C.2.1))) := hR.2.2.1
  have c3 : h.2 (CA w 2) = some (.inr (3, ob3 O (orF C.2.2.2.2 a q))) := hR.2.2.2.2.2.1
  have c4 : h.2 (CA w 3) = some (.inr (4, ob4 (fun k => w + 325 + 1 + k) (fun _ => nI B.2.2.2))) := hR.2.2.2.2.2.2.2.1
  have hG : GmAt h (sA (w + 1) 0) C.1.1 := hR.2.1.2.1
  have g0 := hG.o0
  have hd0 : CA w 0 + 40 ≤ A 1 ∨ A 1 + 40 ≤ CA w 0 := Or.inl (by have := hW.a6; show w + 1 + 40 ≤ A 1; omega)
  refine R_aload_n0 (pc := 0) dX9_targets_0 ?_
  refine G_X9_10 (pc := 1) dX9_targets_1 (by assumption) ?_
  refine G_X9_41 (pc := 4) dX9_targets_4 (by assumption) ?_
  refine R_iload_n1 (pc := 7) dX9_targets_7 ?_
  refine R_callV1 (pc := 8) (T := TX1) cal_X1_known kw444 kw282 kw283 dX9_targets_8 (c_X1_known (by assumption)) (by decide) (Nat.le_of_ble_eq_true rfl) (ci := 1) rfl (by assumption) ?_
  rintro _ _ ⟨⟨z8, hz8, rfl⟩, rfl⟩
  rcases k_known_cases _ _ with ⟨kv8, kz8⟩ | ⟨k8, kl8, kx8, kv8, kz8⟩ <;> (rw [kz8] at hz8; subst hz8)
  · skip
    refine R_astoreN_n3 (pc := 11) dX9_targets_11 rfl (by decide) ?_
    refine R_aloadN_n3 (pc := 12) dX9_targets_12 ?_
    refine R_ifnullN (pc := 13) 23 dX9_targets_13 (by decide) ?_
    refine R_iconst (pc := 23) (v := (-1)) dX9_targets_23 (by decide) ?_
    refine R_goto (pc := 24) 39 dX9_targets_24 (by decide) ?_
    refine R_iret (pc := 39) rfl rfl dX9_targets_39 ?_
    exact ⟨congrArg (fun z => some (Value.int z)) (by simp (decide := true) only [p_targets, kz8, reduceCtorEq, if_true, if_false, reduceIte, and_true, true_and, and_false, false_and, and_self, or_true, true_or, or_false, false_or, or_self, not_true, not_false_iff]), hC, Frm.rf _ _ _⟩
  · skip
    have kg8 := hG.sh kl8
    refine R_astore_n3 (pc := 11) dX9_targets_11 rfl (by decide) ?_
    refine R_aload_n3 (pc := 12) dX9_targets_12 ?_
    refine R_ifnull (pc := 13) dX9_targets_13 ?_
    refine R_iload_n2 (pc := 16) dX9_targets_16 ?_
    refine R_callS1 (pc := 17) cal_X7_hasSide kw494 kw495 dX9_targets_17 c_X7_hasSide (by decide) (Nat.le_of_ble_eq_true rfl) ?_
    rintro _ _ ⟨rfl, rfl⟩
    refine R_ifb_ne (pc := 20) 27 dX9_targets_20 (by decide) (fun c_20 => ?_) (fun c_20 => ?_)
    · skip
      refine R_aload_n0 (pc := 27) dX9_targets_27 ?_
      refine G_X9_10 (pc := 28) dX9_targets_28 (by assumption) ?_
      refine G_X9_41 (pc := 31) dX9_targets_31 (by assumption) ?_
      refine R_aload_n3 (pc := 34) dX9_targets_34 ?_
      refine R_iload_n2 (pc := 35) dX9_targets_35 ?_
      refine R_callV2 (pc := 36) (T := TX1) cal_X1_targetSet kw497 kw498 kw499 dX9_targets_36 (c_X1_targetSet (by assumption) (by assumption)) (by decide) (Nat.le_of_ble_eq_true rfl) (ci := 1) rfl (by assumption) ?_
      rintro _ _ ⟨rfl, rfl⟩
      refine R_iret (pc := 39) rfl rfl dX9_targets_39 ?_
      exact ⟨congrArg (fun z => some (Value.int z)) (by simp (decide := true) only [p_targets, kz8, c_20, reduceCtorEq, if_true, if_false, reduceIte, and_true, true_and, and_false, false_and, and_self, or_true, true_or, or_false, false_or, or_self, not_true, not_false_iff]), hC, Frm.rf _ _ _⟩
    · skip
      refine R_iconst (pc := 23) (v := (-1)) dX9_targets_23 (by decide) ?_
      refine R_goto (pc := 24) 39 dX9_targets_24 (by decide) ?_
      refine R_iret (pc := 39) rfl rfl dX9_targets_39 ?_
      exact ⟨congrArg (fun z => some (Value.int z)) (by simp (decide := true) only [p_targets, kz8, c_20, reduceCtorEq, if_true, if_false, reduceIte, and_true, true_and, and_false, false_and, and_self, or_true, true_or, or_false, false_or, or_self, not_true, not_false_iff]), hC, Frm.rf _ _ _⟩

set_option maxHeartbeats 4000000 in
set_option maxRecDepth 100000 in
theorem c_X9_threats (hC : CAt h w C) {x0 : Int32} : Spec l D cA N0 m_X9_threats 6 0 0 [.ref w, .int x0] h (fun r h' => r = some (.int (p_threats C x0)) ∧ CAt h' w C ∧ Frm h h' w 329) := by
  refine Spec.of (L := [some (.ref w), some (.int x0), none]) (by decide) rfl (Nat.le_of_ble_eq_true rfl) ?_
  obtain ⟨r, A, X, a, q, O, B, hR, hW, hV⟩ := hC
  have hC : CAt h w C := ⟨r, A, X, a, q, O, B, hR, hW, hV⟩
  have c0 := hR.1
  have c1 : h.2 (CA w 0) = some (.inr (6, ob6 (sA (w + 1)) (fun _ => C.1.2.2.2))) := hR.2.1.o
  have c2 : h.2 (CA w 1) = some (.inr (2, ob2 A (fun _ => nI C.2.1))) := hR.2.2.1
  have c3 : h.2 (CA w 2) = some (.inr (3, ob3 O (orF C.2.2.2.2 a q))) := hR.2.2.2.2.2.1
  have c4 : h.2 (CA w 3) = some (.inr (4, ob4 (fun k => w + 325 + 1 + k) (fun _ => nI B.2.2.2))) := hR.2.2.2.2.2.2.2.1
  have hG : GmAt h (sA (w + 1) 0) C.1.1 := hR.2.1.2.1
  have g0 := hG.o0
  have hd0 : CA w 0 + 40 ≤ A 1 ∨ A 1 + 40 ≤ CA w 0 := Or.inl (by have := hW.a6; show w + 1 + 40 ≤ A 1; omega)
  refine R_aload_n0 (pc := 0) dX9_threats_0 ?_
  refine G_X9_10 (pc := 1) dX9_threats_1 (by assumption) ?_
  refine G_X9_41 (pc := 4) dX9_threats_4 (by assumption) ?_
  refine R_iload_n1 (pc := 7) dX9_threats_7 ?_
  refine R_callV1 (pc := 8) (T := TX1) cal_X1_known kw444 kw282 kw283 dX9_threats_8 (c_X1_known (by assumption)) (by decide) (Nat.le_of_ble_eq_true rfl) (ci := 1) rfl (by assumption) ?_
  rintro _ _ ⟨⟨z8, hz8, rfl⟩, rfl⟩
  rcases k_known_cases _ _ with ⟨kv8, kz8⟩ | ⟨k8, kl8, kx8, kv8, kz8⟩ <;> (rw [kz8] at hz8; subst hz8)
  · skip
    refine R_astoreN_n2 (pc := 11) dX9_threats_11 rfl (by decide) ?_
    refine R_aloadN_n2 (pc := 12) dX9_threats_12 ?_
    refine R_ifnonnullN (pc := 13) dX9_threats_13 ?_
    refine R_iconst (pc := 16) (v := (-1)) dX9_threats_16 (by decide) ?_
    refine R_goto (pc := 17) 31 dX9_threats_17 (by decide) ?_
    refine R_iret (pc := 31) rfl rfl dX9_threats_31 ?_
    exact ⟨congrArg (fun z => some (Value.int z)) (by simp (decide := true) only [p_threats, kz8, reduceCtorEq, if_true, if_false, reduceIte, and_true, true_and, and_false, false_and, and_self, or_true, true_or, or_false, false_or, or_self, not_true, not_false_iff]), hC, Frm.rf _ _ _⟩
  · skip
    have kg8 := hG.sh kl8
    refine R_astore_n2 (pc := 11) dX9_threats_11 rfl (by decide) ?_
    refine R_aload_n2 (pc := 12) dX9_threats_12 ?_
    refine R_ifnonnull (pc := 13) 20 dX9_threats_13 (by decide) ?_
    refine R_aload_n0 (pc := 20) dX9_threats_20 ?_
    refine G_X9_10 (pc := 21) dX9_threats_21 (by assumption) ?_
    refine G_X9_41 (pc := 24) dX9_threats_24 (by assumption) ?_
    refine R_aload_n2 (pc := 27) dX9_threats_27 ?_
    refine R_callV1 (pc := 28) (T := TX1) cal_X1_threatSet kw564 kw565 kw566 dX9_threats_28 (c_X1_threatSet (by assumption) (by assumption)) (by decide) (Nat.le_of_ble_eq_true rfl) (ci := 1) rfl (by assumption) ?_
    rintro _ _ ⟨rfl, rfl⟩
    refine R_iret (pc := 31) rfl rfl dX9_threats_31 ?_
    exact ⟨congrArg (fun z => some (Value.int z)) (by simp (decide := true) only [p_threats, kz8, reduceCtorEq, if_true, if_false, reduceIte, and_true, true_and, and_false, false_and, and_self, or_true, true_or, or_false, false_or, or_self, not_true, not_false_iff]), hC, Frm.rf _ _ _⟩

set_option maxHeartbeats 4000000 in
set_option maxRecDepth 100000 in
theorem c_X9_strength (hC : CAt h w C) {x0 : Int32} : Spec l D cA N0 m_X9_strength 6 0 0 [.ref w, .int x0] h (fun r h' => r = some (.int (p_strength C x0)) ∧ CAt h' w C ∧ Frm h h' w 329) := by
  refine Spec.of (L := [some (.ref w), some (.int x0)]) (by decide) rfl (Nat.le_of_ble_eq_true rfl) ?_
  obtain ⟨r, A, X, a, q, O, B, hR, hW, hV⟩ := hC
  have hC : CAt h w C := ⟨r, A, X, a, q, O, B, hR, hW, hV⟩
  have c0 := hR.1
  have c1 : h.2 (CA w 0) = some (.inr (6, ob6 (sA (w + 1)) (fun _ => C.1.2.2.2))) := hR.2.1.o
  have c2 : h.2 (CA w 1) = some (.inr (2, ob2 A (fun _ => nI C.2.1))) := hR.2.2.1
  have c3 : h.2 (CA w 2) = some (.inr (3, ob3 O (orF C.2.2.2.2 a q))) := hR.2.2.2.2.2.1
  have c4 : h.2 (CA w 3) = some (.inr (4, ob4 (fun k => w + 325 + 1 + k) (fun _ => nI B.2.2.2))) := hR.2.2.2.2.2.2.2.1
  have hG : GmAt h (sA (w + 1) 0) C.1.1 := hR.2.1.2.1
  have g0 := hG.o0
  have hd0 : CA w 0 + 40 ≤ A 1 ∨ A 1 + 40 ≤ CA w 0 := Or.inl (by have := hW.a6; show w + 1 + 40 ≤ A 1; omega)
  refine R_iload_n1 (pc := 0) dX9_strength_0 ?_
  refine R_callS1 (pc := 1) cal_X0_exists kw381 kw382 dX9_strength_1 c_X0_exists (by decide) (Nat.le_of_ble_eq_true rfl) ?_
  rintro _ _ ⟨rfl, rfl⟩
  refine R_ifb_eq (pc := 4) 21 dX9_strength_4 (by decide) (fun c_4 => ?_) (fun c_4 => ?_)
  · skip
    refine R_iconst (pc := 21) (v := (-1)) dX9_strength_21 (by decide) ?_
    refine R_iret (pc := 22) rfl rfl dX9_strength_22 ?_
    exact ⟨congrArg (fun z => some (Value.int z)) (by simp (decide := true) only [p_strength, c_4, reduceCtorEq, if_true, if_false, reduceIte, and_true, true_and, and_false, false_and, and_self, or_true, true_or, or_false, false_or, or_self, not_true, not_false_iff]), hC, Frm.rf _ _ _⟩
  · skip
    refine R_aload_n0 (pc := 7) dX9_strength_7 ?_
    refine G_X9_10 (pc := 8) dX9_strength_8 (by assumption) ?_
    refine G_X9_41 (pc := 11) dX9_strength_11 (by assumption) ?_
    refine R_iload_n1 (pc := 14) dX9_strength_14 ?_
    refine R_callV1 (pc := 15) (T := TX1) cal_X1_strengthOf kw384 kw385 kw386 dX9_strength_15 (c_X1_strengthOf hG) (by decide) (Nat.le_of_ble_eq_true rfl) (ci := 1) rfl (by assumption) ?_
    rintro _ _ ⟨rfl, rfl⟩
    refine R_goto (pc := 18) 22 dX9_strength_18 (by decide) ?_
    refine R_iret (pc := 22) rfl rfl dX9_strength_22 ?_
    exact ⟨congrArg (fun z => some (Value.int z)) (by simp (decide := true) only [p_strength, c_4, reduceCtorEq, if_true, if_false, reduceIte, and_true, true_and, and_false, false_and, and_self, or_true, true_or, or_false, false_or, or_self, not_true, not_false_iff]), hC, Frm.rf _ _ _⟩

set_option maxHeartbeats 4000000 in
set_option maxRecDepth 100000 in
theorem c_X9_windBy (hC : CAt h w C) {x0 x1 : Int32} : Spec l D cA N0 m_X9_windBy 6 0 0 [.ref w, .int x0, .int x1] h (fun r h' => r = some (.int (p_wind C x0 x1)) ∧ CAt h' w C ∧ Frm h h' w 329) := by
  refine Spec.of (L := [some (.ref w), some (.int x0), some (.int x1), none]) (by decide) rfl (Nat.le_of_ble_eq_true rfl) ?_
  obtain ⟨r, A, X, a, q, O, B, hR, hW, hV⟩ := hC
  have hC : CAt h w C := ⟨r, A, X, a, q, O, B, hR, hW, hV⟩
  have c0 := hR.1
  have c1 : h.2 (CA w 0) = some (.inr (6, ob6 (sA (w + 1)) (fun _ => C.1.2.2.2))) := hR.2.1.o
  have c2 : h.2 (CA w 1) = some (.inr (2, ob2 A (fun _ => nI C.2.1))) := hR.2.2.1
  have c3 : h.2 (CA w 2) = some (.inr (3, ob3 O (orF C.2.2.2.2 a q))) := hR.2.2.2.2.2.1
  have c4 : h.2 (CA w 3) = some (.inr (4, ob4 (fun k => w + 325 + 1 + k) (fun _ => nI B.2.2.2))) := hR.2.2.2.2.2.2.2.1
  have hG : GmAt h (sA (w + 1) 0) C.1.1 := hR.2.1.2.1
  have g0 := hG.o0
  have hd0 : CA w 0 + 40 ≤ A 1 ∨ A 1 + 40 ≤ CA w 0 := Or.inl (by have := hW.a6; show w + 1 + 40 ≤ A 1; omega)
  refine R_iload_n1 (pc := 0) dX9_windBy_0 ?_
  refine R_callS1 (pc := 1) cal_X0_isCard kw683 kw684 dX9_windBy_1 c_X0_isCard (by decide) (Nat.le_of_ble_eq_true rfl) ?_
  rintro _ _ ⟨rfl, rfl⟩
  refine R_ifb_eq (pc := 4) 14 dX9_windBy_4 (by decide) (fun c_4 => ?_) (fun c_4 => ?_)
  · skip
    refine R_iconst (pc := 14) (v := (-1)) dX9_windBy_14 (by decide) ?_
    refine R_iret (pc := 15) rfl rfl dX9_windBy_15 ?_
    exact ⟨congrArg (fun z => some (Value.int z)) (by simp (decide := true) only [p_wind, c_4, reduceCtorEq, if_true, if_false, reduceIte, and_true, true_and, and_false, false_and, and_self, or_true, true_or, or_false, false_or, or_self, not_true, not_false_iff]), hC, Frm.rf _ _ _⟩
  · skip
    refine R_iload_n2 (pc := 7) dX9_windBy_7 ?_
    refine R_callS1 (pc := 8) cal_X0_isCard kw683 kw684 dX9_windBy_8 c_X0_isCard (by decide) (Nat.le_of_ble_eq_true rfl) ?_
    rintro _ _ ⟨rfl, rfl⟩
    refine R_ifb_ne (pc := 11) 16 dX9_windBy_11 (by decide) (fun c_11 => ?_) (fun c_11 => ?_)
    · skip
      refine R_iload_n1 (pc := 16) dX9_windBy_16 ?_
      refine R_iload_n2 (pc := 17) dX9_windBy_17 ?_
      refine R_iadd (pc := 18) dX9_windBy_18 ?_
      refine R_istore_n3 (pc := 19) dX9_windBy_19 rfl (by decide) ?_
      refine R_bipush (pc := 20) (v := 10) dX9_windBy_20 (by decide) ?_
      refine R_aload_n0 (pc := 22) dX9_windBy_22 ?_
      refine G_X9_10 (pc := 23) dX9_windBy_23 (by assumption) ?_
      refine G_X9_41 (pc := 26) dX9_windBy_26 (by assumption) ?_
      refine R_iload_n3 (pc := 29) dX9_windBy_29 ?_
      refine R_callV1 (pc := 30) (T := TX1) cal_X1_directionBy kw686 kw687 kw688 dX9_windBy_30 (c_X1_directionBy hG) (by decide) (Nat.le_of_ble_eq_true rfl) (ci := 1) rfl (by assumption) ?_
      rintro _ _ ⟨rfl, rfl⟩
      refine R_imul (pc := 33) dX9_windBy_33 ?_
      refine R_iload_n3 (pc := 34) dX9_windBy_34 ?_
      refine R_callS1 (pc := 35) cal_X1_strengthBy kw690 kw691 dX9_windBy_35 c_X1_strengthBy (by decide) (Nat.le_of_ble_eq_true rfl) ?_
      rintro _ _ ⟨rfl, rfl⟩
      refine R_iadd (pc := 38) dX9_windBy_38 ?_
      refine R_iret (pc := 39) rfl rfl dX9_windBy_39 ?_
      exact ⟨congrArg (fun z => some (Value.int z)) (by simp (decide := true) only [p_wind, c_4, c_11, reduceCtorEq, if_true, if_false, reduceIte, and_true, true_and, and_false, false_and, and_self, or_true, true_or, or_false, false_or, or_self, not_true, not_false_iff]), hC, Frm.rf _ _ _⟩
    · skip
      refine R_iconst (pc := 14) (v := (-1)) dX9_windBy_14 (by decide) ?_
      refine R_iret (pc := 15) rfl rfl dX9_windBy_15 ?_
      exact ⟨congrArg (fun z => some (Value.int z)) (by simp (decide := true) only [p_wind, c_4, c_11, reduceCtorEq, if_true, if_false, reduceIte, and_true, true_and, and_false, false_and, and_self, or_true, true_or, or_false, false_or, or_self, not_true, not_false_iff]), hC, Frm.rf _ _ _⟩

set_option maxHeartbeats 4000000 in
set_option maxRecDepth 100000 in
theorem c_X9_hits (hC : CAt h w C) {x0 x1 x2 : Int32} : Spec l D cA N0 m_X9_hits 6 0 0 [.ref w, .int x0, .int x1, .int x2] h (fun r h' => r = some (.int (p_hits C x0 x1 x2)) ∧ CAt h' w C ∧ Frm h h' w 329) := by
  refine Spec.of (L := [some (.ref w), some (.int x0), some (.int x1), some (.int x2), none, none, none]) (by decide) rfl (Nat.le_of_ble_eq_true rfl) ?_
  obtain ⟨r, A, X, a, q, O, B, hR, hW, hV⟩ := hC
  have hC : CAt h w C := ⟨r, A, X, a, q, O, B, hR, hW, hV⟩
  have c0 := hR.1
  have c1 : h.2 (CA w 0) = some (.inr (6, ob6 (sA (w + 1)) (fun _ => C.1.2.2.2))) := hR.2.1.o
  have c2 : h.2 (CA w 1) = some (.inr (2, ob2 A (fun _ => nI C.2.1))) := hR.2.2.1
  have c3 : h.2 (CA w 2) = some (.inr (3, ob3 O (orF C.2.2.2.2 a q))) := hR.2.2.2.2.2.1
  have c4 : h.2 (CA w 3) = some (.inr (4, ob4 (fun k => w + 325 + 1 + k) (fun _ => nI B.2.2.2))) := hR.2.2.2.2.2.2.2.1
  have hG : GmAt h (sA (w + 1) 0) C.1.1 := hR.2.1.2.1
  have g0 := hG.o0
  have hd0 : CA w 0 + 40 ≤ A 1 ∨ A 1 + 40 ≤ CA w 0 := Or.inl (by have := hW.a6; show w + 1 + 40 ≤ A 1; omega)
  refine R_aload_n0 (pc := 0) dX9_hits_0 ?_
  refine G_X9_10 (pc := 1) dX9_hits_1 (by assumption) ?_
  refine G_X9_41 (pc := 4) dX9_hits_4 (by assumption) ?_
  refine R_iload_n1 (pc := 7) dX9_hits_7 ?_
  refine R_callV1 (pc := 8) (T := TX1) cal_X1_known kw444 kw282 kw283 dX9_hits_8 (c_X1_known (by assumption)) (by decide) (Nat.le_of_ble_eq_true rfl) (ci := 1) rfl (by assumption) ?_
  rintro _ _ ⟨⟨z8, hz8, rfl⟩, rfl⟩
  rcases k_known_cases _ _ with ⟨kv8, kz8⟩ | ⟨k8, kl8, kx8, kv8, kz8⟩ <;> (rw [kz8] at hz8; subst hz8)
  · skip
    refine R_astoreN4 (pc := 11) dX9_hits_11 rfl (by decide) ?_
    refine R_aload_n0 (pc := 13) dX9_hits_13 ?_
    refine G_X9_10 (pc := 14) dX9_hits_14 (by assumption) ?_
    refine G_X9_41 (pc := 17) dX9_hits_17 (by assumption) ?_
    refine R_iload_n3 (pc := 20) dX9_hits_20 ?_
    refine R_callV1 (pc := 21) (T := TX1) cal_X1_known kw444 kw282 kw283 dX9_hits_21 (c_X1_known (by assumption)) (by decide) (Nat.le_of_ble_eq_true rfl) (ci := 1) rfl (by assumption) ?_
    rintro _ _ ⟨⟨z21, hz21, rfl⟩, rfl⟩
    rcases k_known_cases _ _ with ⟨kv21, kz21⟩ | ⟨k21, kl21, kx21, kv21, kz21⟩ <;> (rw [kz21] at hz21; subst hz21)
    · skip
      refine R_astoreN5 (pc := 24) dX9_hits_24 rfl (by decide) ?_
      refine R_aloadN4 (pc := 26) dX9_hits_26 ?_
      refine R_ifnullN (pc := 28) 48 dX9_hits_28 (by decide) ?_
      refine R_iconst (pc := 48) (v := (-1)) dX9_hits_48 (by decide) ?_
      refine R_iret (pc := 49) rfl rfl dX9_hits_49 ?_
      exact ⟨congrArg (fun z => some (Value.int z)) (by simp (decide := true) only [p_hits, kz8, kz21, reduceCtorEq, if_true, if_false, reduceIte, and_true, true_and, and_false, false_and, and_self, or_true, true_or, or_false, false_or, or_self, not_true, not_false_iff]), hC, Frm.rf _ _ _⟩
    · skip
      have kg21 := hG.sh kl21
      refine R_astore5 (pc := 24) dX9_hits_24 rfl (by decide) ?_
      refine R_aloadN4 (pc := 26) dX9_hits_26 ?_
      refine R_ifnullN (pc := 28) 48 dX9_hits_28 (by decide) ?_
      refine R_iconst (pc := 48) (v := (-1)) dX9_hits_48 (by decide) ?_
      refine R_iret (pc := 49) rfl rfl dX9_hits_49 ?_
      exact ⟨congrArg (fun z => some (Value.int z)) (by simp (decide := true) only [p_hits, kz8, kz21, reduceCtorEq, if_true, if_false, reduceIte, and_true, true_and, and_false, false_and, and_self, or_true, true_or, or_false, false_or, or_self, not_true, not_false_iff]), hC, Frm.rf _ _ _⟩
  · skip
    have kg8 := hG.sh kl8
    refine R_astore4 (pc := 11) dX9_hits_11 rfl (by decide) ?_
    refine R_aload_n0 (pc := 13) dX9_hits_13 ?_
    refine G_X9_10 (pc := 14) dX9_hits_14 (by assumption) ?_
    refine G_X9_41 (pc := 17) dX9_hits_17 (by assumption) ?_
    refine R_iload_n3 (pc := 20) dX9_hits_20 ?_
    refine R_callV1 (pc := 21) (T := TX1) cal_X1_known kw444 kw282 kw283 dX9_hits_21 (c_X1_known (by assumption)) (by decide) (Nat.le_of_ble_eq_true rfl) (ci := 1) rfl (by assumption) ?_
    rintro _ _ ⟨⟨z21, hz21, rfl⟩, rfl⟩
    rcases k_known_cases _ _ with ⟨kv21, kz21⟩ | ⟨k21, kl21, kx21, kv21, kz21⟩ <;> (rw [kz21] at hz21; subst hz21)
    · skip
      refine R_astoreN5 (pc := 24) dX9_hits_24 rfl (by decide) ?_
      refine R_aload4 (pc := 26) dX9_hits_26 ?_
      refine R_ifnull (pc := 28) dX9_hits_28 ?_
      refine R_aloadN5 (pc := 31) dX9_hits_31 ?_
      refine R_ifnullN (pc := 33) 48 dX9_hits_33 (by decide) ?_
      refine R_iconst (pc := 48) (v := (-1)) dX9_hits_48 (by decide) ?_
      refine R_iret (pc := 49) rfl rfl dX9_hits_49 ?_
      exact ⟨congrArg (fun z => some (Value.int z)) (by simp (decide := true) only [p_hits, kz8, kz21, reduceCtorEq, if_true, if_false, reduceIte, and_true, true_and, and_false, false_and, and_self, or_true, true_or, or_false, false_or, or_self, not_true, not_false_iff]), hC, Frm.rf _ _ _⟩
    · skip
      have kg21 := hG.sh kl21
      refine R_astore5 (pc := 24) dX9_hits_24 rfl (by decide) ?_
      refine R_aload4 (pc := 26) dX9_hits_26 ?_
      refine R_ifnull (pc := 28) dX9_hits_28 ?_
      refine R_aload5 (pc := 31) dX9_hits_31 ?_
      refine R_ifnull (pc := 33) dX9_hits_33 ?_
      refine R_iload_n1 (pc := 36) dX9_hits_36 ?_
      refine R_iload_n3 (pc := 37) dX9_hits_37 ?_
      refine R_icmp_eq (pc := 38) 48 dX9_hits_38 (by decide) (fun c_38 => ?_) (fun c_38 => ?_)
      · skip
        refine R_iconst (pc := 48) (v := (-1)) dX9_hits_48 (by decide) ?_
        refine R_iret (pc := 49) rfl rfl dX9_hits_49 ?_
        exact ⟨congrArg (fun z => some (Value.int z)) (by simp (decide := true) only [p_hits, kz8, kz21, c_38, reduceCtorEq, if_true, if_false, reduceIte, and_true, true_and, and_false, false_and, and_self, or_true, true_or, or_false, false_or, or_self, not_true, not_false_iff]), hC, Frm.rf _ _ _⟩
      · skip
        refine R_iload_n2 (pc := 41) dX9_hits_41 ?_
        refine R_callS1 (pc := 42) cal_X7_hasSide kw494 kw495 dX9_hits_42 c_X7_hasSide (by decide) (Nat.le_of_ble_eq_true rfl) ?_
        rintro _ _ ⟨rfl, rfl⟩
        refine R_ifb_ne (pc := 45) 50 dX9_hits_45 (by decide) (fun c_45 => ?_) (fun c_45 => ?_)
        · skip
          refine R_aload_n0 (pc := 50) dX9_hits_50 ?_
          refine G_X9_10 (pc := 51) dX9_hits_51 (by assumption) ?_
          refine G_X9_41 (pc := 54) dX9_hits_54 (by assumption) ?_
          refine R_aload4 (pc := 57) dX9_hits_57 ?_
          refine R_iload_n2 (pc := 59) dX9_hits_59 ?_
          refine R_aload5 (pc := 60) dX9_hits_60 ?_
          refine R_callV3 (pc := 62) (T := TX1) cal_X1_shotLength kw575 kw502 kw503 dX9_hits_62 (c_X1_shotLength (by assumption) (by assumption) (by assumption)) (by decide) (Nat.le_of_ble_eq_true rfl) (ci := 1) rfl (by assumption) ?_
          rintro _ _ ⟨rfl, rfl⟩
          refine R_istore6 (pc := 65) dX9_hits_65 rfl (by decide) ?_
          refine R_iload6 (pc := 67) dX9_hits_67 ?_
          refine R_if_ne (pc := 69) 77 dX9_hits_69 (by decide) (fun c_69 => ?_) (fun c_69 => ?_)
          · skip
            refine R_aload4 (pc := 77) dX9_hits_77 ?_
            refine R_iload6 (pc := 79) dX9_hits_79 ?_
            refine R_callV1 (pc := 81) (T := TX7) cal_X7_hitsFrom kw576 kw577 kw578 dX9_hits_81 (c_X7_hitsFrom (by assumption)) (by decide) (Nat.le_of_ble_eq_true rfl) (ci := 5) rfl (by assumption) ?_
            rintro _ _ ⟨rfl, rfl⟩
            refine R_iret (pc := 84) rfl rfl dX9_hits_84 ?_
            exact ⟨congrArg (fun z => some (Value.int z)) (by simp (decide := true) only [p_hits, kz8, kz21, c_38, c_45, c_69, reduceCtorEq, if_true, if_false, reduceIte, and_true, true_and, and_false, false_and, and_self, or_true, true_or, or_false, false_or, or_self, not_true, not_false_iff]), hC, Frm.rf _ _ _⟩
          · skip
            refine R_bipush (pc := 72) (v := (-9)) dX9_hits_72 (by decide) ?_
            refine R_goto (pc := 74) 84 dX9_hits_74 (by decide) ?_
            refine R_iret (pc := 84) rfl rfl dX9_hits_84 ?_
            exact ⟨congrArg (fun z => some (Value.int z)) (by simp (decide := true) only [p_hits, kz8, kz21, c_38, c_45, c_69, reduceCtorEq, if_true, if_false, reduceIte, and_true, true_and, and_false, false_and, and_self, or_true, true_or, or_false, false_or, or_self, not_true, not_false_iff]), hC, Frm.rf _ _ _⟩
        · skip
          refine R_iconst (pc := 48) (v := (-1)) dX9_hits_48 (by decide) ?_
          refine R_iret (pc := 49) rfl rfl dX9_hits_49 ?_
          exact ⟨congrArg (fun z => some (Value.int z)) (by simp (decide := true) only [p_hits, kz8, kz21, c_38, c_45, reduceCtorEq, if_true, if_false, reduceIte, and_true, true_and, and_false, false_and, and_self, or_true, true_or, or_false, false_or, or_self, not_true, not_false_iff]), hC, Frm.rf _ _ _⟩

set_option maxHeartbeats 4000000 in
set_option maxRecDepth 100000 in
theorem c_X9_count (hC : CAt h w C) {x0 : Int32} : Spec l D cA N0 m_X9_count 6 0 0 [.ref w, .int x0] h (fun r h' => r = some (.int (p_count C x0)) ∧ CAt h' w C ∧ Frm h h' w 329) := by
  refine Spec.of (L := [some (.ref w), some (.int x0)]) (by decide) rfl (Nat.le_of_ble_eq_true rfl) ?_
  obtain ⟨r, A, X, a, q, O, B, hR, hW, hV⟩ := hC
  have hC : CAt h w C := ⟨r, A, X, a, q, O, B, hR, hW, hV⟩
  have c0 := hR.1
  have c1 : h.2 (CA w 0) = some (.inr (6, ob6 (sA (w + 1)) (fun _ => C.1.2.2.2))) := hR.2.1.o
  have c2 : h.2 (CA w 1) = some (.inr (2, ob2 A (fun _ => nI C.2.1))) := hR.2.2.1
  have c3 : h.2 (CA w 2) = some (.inr (3, ob3 O (orF C.2.2.2.2 a q))) := hR.2.2.2.2.2.1
  have c4 : h.2 (CA w 3) = some (.inr (4, ob4 (fun k => w + 325 + 1 + k) (fun _ => nI B.2.2.2))) := hR.2.2.2.2.2.2.2.1
  have hG : GmAt h (sA (w + 1) 0) C.1.1 := hR.2.1.2.1
  have g0 := hG.o0
  have hd0 : CA w 0 + 40 ≤ A 1 ∨ A 1 + 40 ≤ CA w 0 := Or.inl (by have := hW.a6; show w + 1 + 40 ≤ A 1; omega)
  refine R_iload_n1 (pc := 0) dX9_count_0 ?_
  refine R_swG (pc := 1) (lo := 9) (hi := 11) 55 dX9_count_1 (by decide) (fun c_1 => ?_) (fun c_1 c_1b => ?_)
  · skip
    refine R_aload_n0 (pc := 55) dX9_count_55 ?_
    refine G_X9_10 (pc := 56) dX9_count_56 (by assumption) ?_
    refine G_X9_41 (pc := 59) dX9_count_59 (by assumption) ?_
    refine R_iload_n1 (pc := 62) dX9_count_62 ?_
    refine R_callV1 (pc := 63) (T := TX1) cal_X1_tally kw357 kw358 kw359 dX9_count_63 (c_X1_tally hG) (by decide) (Nat.le_of_ble_eq_true rfl) (ci := 1) rfl (by assumption) ?_
    rintro _ _ ⟨rfl, rfl⟩
    refine R_iret (pc := 66) rfl rfl dX9_count_66 ?_
    exact ⟨congrArg (fun z => some (Value.int z)) (by rw [p_count, if_neg (fun z => sw_ne c_1 (v := 9) (by decide) z), if_neg (fun z => sw_ne c_1 (v := 10) (by decide) z), if_neg (fun z => sw_ne c_1 (v := 11) (by decide) z)]), hC, Frm.rf _ _ _⟩
  · skip
    rcases sw_9_11 _ c_1 c_1b with c_1 | c_1 | c_1
    · skip
      refine R_swE (pc := 1) (v := 9) (off := 27) 28 dX9_count_1 c_1 (by decide) (by decide) (by decide) (by decide) ?_
      refine R_aload_n0 (pc := 28) dX9_count_28 ?_
      refine G_X9_10 (pc := 29) dX9_count_29 (by assumption) ?_
      refine G_X9_118 (pc := 32) dX9_count_32 (by assumption) ?_
      refine R_callS1 (pc := 35) cal_J6_bitCount_0f7a4 kw343 kw344 dX9_count_35 c_J6_bitCount_0f7a4 (by decide) (Nat.le_of_ble_eq_true rfl) ?_
      rintro _ _ ⟨rfl, rfl⟩
      refine R_iret (pc := 38) rfl rfl dX9_count_38 ?_
      exact ⟨congrArg (fun z => some (Value.int z)) (by subst c_1; rfl), hC, Frm.rf _ _ _⟩
    · skip
      refine R_swE (pc := 1) (v := 10) (off := 38) 39 dX9_count_1 c_1 (by decide) (by decide) (by decide) (by decide) ?_
      refine R_aload_n0 (pc := 39) dX9_count_39 ?_
      refine G_X9_19 (pc := 40) dX9_count_40 (by assumption) ?_
      refine R_callV0 (pc := 43) (T := TX3) cal_X3_size kw349 kw350 kw351 dX9_count_43 (c_X3_size c2) (by decide) (Nat.le_of_ble_eq_true rfl) (ci := 2) rfl (by assumption) ?_
      rintro _ _ ⟨rfl, rfl⟩
      refine R_iret (pc := 46) rfl rfl dX9_count_46 ?_
      exact ⟨congrArg (fun z => some (Value.int z)) (by subst c_1; rfl), hC, Frm.rf _ _ _⟩
    · skip
      refine R_swE (pc := 1) (v := 11) (off := 46) 47 dX9_count_1 c_1 (by decide) (by decide) (by decide) (by decide) ?_
      refine R_aload_n0 (pc := 47) dX9_count_47 ?_
      refine G_X9_26 (pc := 48) dX9_count_48 (by assumption) ?_
      refine R_callV0 (pc := 51) (T := TX4) cal_X4_length kw353 kw354 kw355 dX9_count_51 (c_X4_length (by assumption)) (by decide) (Nat.le_of_ble_eq_true rfl) (ci := 3) rfl (by assumption) ?_
      rintro _ _ ⟨rfl, rfl⟩
      refine R_iret (pc := 54) rfl rfl dX9_count_54 ?_
      exact ⟨congrArg (fun z => some (Value.int z)) (by subst c_1; rfl), hC, Frm.rf _ _ _⟩

set_option maxHeartbeats 4000000 in
set_option maxRecDepth 100000 in
theorem c_X9_way (hC : CAt h w C) (hm : ∀ i, i < 8 → k_now C.1.1 i ≤ 6) (hh : ∀ i, i < 8 → hdg C.1.1 i < 6 ∧ shF C.1.1 i 3 = nI (hdg C.1.1 i)) {x0 x1 x2 : Int32} : Spec l D cA N0 m_X9_way 6 0 0 [.ref w, .int x0, .int x1, .int x2] h (fun r h' => (∃ Q : Nat → Nat, r = some (.int (p_way C Q x0 x1 x2))) ∧ CAt h' w C ∧ Frm h h' w 329) := by
  refine Spec.of (L := [some (.ref w), some (.int x0), some (.int x1), some (.int x2), none]) (by decide) rfl (Nat.le_of_ble_eq_true rfl) ?_
  obtain ⟨r, A, X, a, q, O, B, hR, hW, hV⟩ := hC
  have hC : CAt h w C := ⟨r, A, X, a, q, O, B, hR, hW, hV⟩
  have c0 := hR.1
  have c1 : h.2 (CA w 0) = some (.inr (6, ob6 (sA (w + 1)) (fun _ => C.1.2.2.2))) := hR.2.1.o
  have c2 : h.2 (CA w 1) = some (.inr (2, ob2 A (fun _ => nI C.2.1))) := hR.2.2.1
  have c3 : h.2 (CA w 2) = some (.inr (3, ob3 O (orF C.2.2.2.2 a q))) := hR.2.2.2.2.2.1
  have c4 : h.2 (CA w 3) = some (.inr (4, ob4 (fun k => w + 325 + 1 + k) (fun _ => nI B.2.2.2))) := hR.2.2.2.2.2.2.2.1
  have hG : GmAt h (sA (w + 1) 0) C.1.1 := hR.2.1.2.1
  have g0 := hG.o0
  have hd0 : CA w 0 + 40 ≤ A 1 ∨ A 1 + 40 ≤ CA w 0 := Or.inl (by have := hW.a6; show w + 1 + 40 ≤ A 1; omega)
  refine R_aload_n0 (pc := 0) dX9_way_0 ?_
  refine G_X9_10 (pc := 1) dX9_way_1 (by assumption) ?_
  refine G_X9_41 (pc := 4) dX9_way_4 (by assumption) ?_
  refine R_iload_n1 (pc := 7) dX9_way_7 ?_
  refine R_callV1 (pc := 8) (T := TX1) cal_X1_known kw444 kw282 kw283 dX9_way_8 (c_X1_known (by assumption)) (by decide) (Nat.le_of_ble_eq_true rfl) (ci := 1) rfl (by assumption) ?_
  rintro _ _ ⟨⟨z8, hz8, rfl⟩, rfl⟩
  rcases k_known_cases _ _ with ⟨kv8, kz8⟩ | ⟨k8, kl8, kx8, kv8, kz8⟩ <;> (rw [kz8] at hz8; subst hz8)
  · skip
    refine R_astoreN4 (pc := 11) dX9_way_11 rfl (by decide) ?_
    refine R_aloadN4 (pc := 13) dX9_way_13 ?_
    refine R_ifnullN (pc := 15) 34 dX9_way_15 (by decide) ?_
    refine R_iconst (pc := 34) (v := (-1)) dX9_way_34 (by decide) ?_
    refine R_iret (pc := 35) rfl rfl dX9_way_35 ?_
    exact ⟨⟨B.2.1, congrArg (fun z => some (Value.int z)) (by simp (decide := true) only [p_way, p_reach, p_best, kz8, reduceCtorEq, if_true, if_false, reduceIte, and_true, true_and, and_false, false_and, and_self, or_true, true_or, or_false, false_or, or_self, not_true, not_false_iff])⟩, hC, Frm.rf _ _ _⟩
  · skip
    have kg8 := hG.sh kl8
    refine R_astore4 (pc := 11) dX9_way_11 rfl (by decide) ?_
    refine R_aload4 (pc := 13) dX9_way_13 ?_
    refine R_ifnull (pc := 15) dX9_way_15 ?_
    refine R_iload_n2 (pc := 18) dX9_way_18 ?_
    refine R_callS1 (pc := 19) cal_X2_exists kw415 kw405 dX9_way_19 c_X2_exists (by decide) (Nat.le_of_ble_eq_true rfl) ?_
    rintro _ _ ⟨rfl, rfl⟩
    refine R_ifb_eq (pc := 22) 34 dX9_way_22 (by decide) (fun c_22 => ?_) (fun c_22 => ?_)
    · skip
      refine R_iconst (pc := 34) (v := (-1)) dX9_way_34 (by decide) ?_
      refine R_iret (pc := 35) rfl rfl dX9_way_35 ?_
      exact ⟨⟨B.2.1, congrArg (fun z => some (Value.int z)) (by simp (decide := true) only [p_way, p_reach, p_best, kz8, c_22, reduceCtorEq, if_true, if_false, reduceIte, and_true, true_and, and_false, false_and, and_self, or_true, true_or, or_false, false_or, or_self, not_true, not_false_iff])⟩, hC, Frm.rf _ _ _⟩
    · skip
      refine R_iload_n3 (pc := 25) dX9_way_25 ?_
      refine R_if_lt (pc := 26) 34 dX9_way_26 (by decide) (fun c_26 => ?_) (fun c_26 => ?_)
      · skip
        have d_26 := Int32.not_le.mpr c_26
        refine R_iconst (pc := 34) (v := (-1)) dX9_way_34 (by decide) ?_
        refine R_iret (pc := 35) rfl rfl dX9_way_35 ?_
        exact ⟨⟨B.2.1, congrArg (fun z => some (Value.int z)) (by simp (decide := true) only [p_way, p_reach, p_best, kz8, c_22, c_26, d_26, reduceCtorEq, if_true, if_false, reduceIte, and_true, true_and, and_false, false_and, and_self, or_true, true_or, or_false, false_or, or_self, not_true, not_false_iff])⟩, hC, Frm.rf _ _ _⟩
      · skip
        have d_26 := Int32.not_lt.mp c_26
        refine R_iload_n3 (pc := 29) dX9_way_29 ?_
        refine R_iconst (pc := 30) (v := 2) dX9_way_30 (by decide) ?_
        refine R_icmp_le (pc := 31) 36 dX9_way_31 (by decide) (fun c_31 => ?_) (fun c_31 => ?_)
        · skip
          have d_31 := Int32.not_lt.mpr c_31
          refine R_aload_n0 (pc := 36) dX9_way_36 ?_
          refine G_X9_33 (pc := 37) dX9_way_37 (by assumption) ?_
          refine R_aload_n0 (pc := 40) dX9_way_40 ?_
          refine G_X9_10 (pc := 41) dX9_way_41 (by assumption) ?_
          refine G_X9_41 (pc := 44) dX9_way_44 (by assumption) ?_
          refine R_aload4 (pc := 47) dX9_way_47 ?_
          refine R_aload_n0 (pc := 49) dX9_way_49 ?_
          refine G_X9_10 (pc := 50) dX9_way_50 (by assumption) ?_
          refine G_X9_41 (pc := 53) dX9_way_53 (by assumption) ?_
          refine R_aload4 (pc := 56) dX9_way_56 ?_
          refine R_callV1 (pc := 58) (T := TX1) cal_X1_stepsNow kw524 kw450 kw451 dX9_way_58 (c_X1_stepsNow hG kl8) (by decide) (Nat.le_of_ble_eq_true rfl) (ci := 1) rfl (by assumption) ?_
          rintro _ _ ⟨rfl, rfl⟩
          refine R_callV3 (pc := 61) (T := TX6) cal_X6_explore kw525 kw526 kw527 dX9_way_61 (c_X6_explore hG kl8 (Or.inl (show w + 2 + 13 ≤ w + 325 by omega)) (hm _ kl8) (hh _ kl8).1 (hh _ kl8).2 hR.2.2.2.2.2.2.2) (by decide) (Nat.le_of_ble_eq_true rfl) (ci := 4) rfl c4 ?_
          rintro _ h1 ⟨rfl, hRt, fr0⟩
          obtain ⟨hR1, fr1⟩ := hR.rts hW hRt fr0
          have d0 := hR1.1
          have d1 : h1.2 (CA w 0) = some (.inr (6, ob6 (sA (w + 1)) (fun _ => C.1.2.2.2))) := hR1.2.1.o
          have d4 := hRt.1
          have hG1 : GmAt h1 (sA (w + 1) 0) C.1.1 := hR1.2.1.2.1
          have g1 := hG1.o0
          have hBo := bway_ok (G := C.1.1) (u := k8) (hh _ kl8).1 (hm _ kl8) B.2.1
          obtain ⟨y, hy, ey⟩ := i_nI c_22.1 (show x1 < nI 81 from c_22.2) (by decide)
          have hyc : (nI y).toNatClampNeg = y := nI_clamp (by omega)
          have c_22y : 0 ≤ nI y ∧ nI y < 81 := ey ▸ c_22
          rw [ey]
          refine R_aload_n0 (pc := 64) dX9_way_64 ?_
          refine G_X9_33 (pc := 65) dX9_way_65 (by assumption) ?_
          refine R_iload_n2 (pc := 68) dX9_way_68 ?_
          refine R_iload_n3 (pc := 69) dX9_way_69 ?_
          refine R_callV2 (pc := 70) (T := TX6) cal_X6_tellOfWay kw590 kw591 kw592 dX9_way_70 (c_X6_tellOfWay hRt hBo hy) (by decide) (Nat.le_of_ble_eq_true rfl) (ci := 4) rfl (by assumption) ?_
          rintro _ _ ⟨rfl, rfl⟩
          refine R_iret (pc := 73) rfl rfl dX9_way_73 ?_
          refine ⟨⟨B.2.1, congrArg (fun z => some (Value.int z)) ?_⟩, ⟨_, _, _, _, _, _, _, hR1, hW, hV⟩, fr1⟩
          simp (decide := true) only [p_way, kz8, c_22, c_26, d_26, c_31, d_31, c_22y, hyc, reduceCtorEq, if_true, if_false, reduceIte, and_true, true_and, and_false, false_and, and_self, or_true, true_or, or_false, false_or, or_self, not_true, not_false_iff]
        · skip
          have d_31 := Int32.not_le.mp c_31
          refine R_iconst (pc := 34) (v := (-1)) dX9_way_34 (by decide) ?_
          refine R_iret (pc := 35) rfl rfl dX9_way_35 ?_
          exact ⟨⟨B.2.1, congrArg (fun z => some (Value.int z)) (by simp (decide := true) only [p_way, p_reach, p_best, kz8, c_22, c_26, d_26, c_31, d_31, reduceCtorEq, if_true, if_false, reduceIte, and_true, true_and, and_false, false_and, and_self, or_true, true_or, or_false, false_or, or_self, not_true, not_false_iff])⟩, hC, Frm.rf _ _ _⟩

set_option maxHeartbeats 4000000 in
set_option maxRecDepth 100000 in
theorem c_X9_reach (hC : CAt h w C) (hm : ∀ i, i < 8 → k_now C.1.1 i ≤ 6) (hh : ∀ i, i < 8 → hdg C.1.1 i < 6 ∧ shF C.1.1 i 3 = nI (hdg C.1.1 i)) {x0 : Int32} : Spec l D cA N0 m_X9_reach 6 0 0 [.ref w, .int x0] h (fun r h' => (∃ Q : Nat → Nat, r = some (.int (p_reach C Q x0))) ∧ CAt h' w C ∧ Frm h h' w 329) := by
  refine Spec.of (L := [some (.ref w), some (.int x0), none]) (by decide) rfl (Nat.le_of_ble_eq_true rfl) ?_
  obtain ⟨r, A, X, a, q, O, B, hR, hW, hV⟩ := hC
  have hC : CAt h w C := ⟨r, A, X, a, q, O, B, hR, hW, hV⟩
  have c0 := hR.1
  have c1 : h.2 (CA w 0) = some (.inr (6, ob6 (sA (w + 1)) (fun _ => C.1.2.2.2))) := hR.2.1.o
  have c2 : h.2 (CA w 1) = some (.inr (2, ob2 A (fun _ => nI C.2.1))) := hR.2.2.1
  have c3 : h.2 (CA w 2) = some (.inr (3, ob3 O (orF C.2.2.2.2 a q))) := hR.2.2.2.2.2.1
  have c4 : h.2 (CA w 3) = some (.inr (4, ob4 (fun k => w + 325 + 1 + k) (fun _ => nI B.2.2.2))) := hR.2.2.2.2.2.2.2.1
  have hG : GmAt h (sA (w + 1) 0) C.1.1 := hR.2.1.2.1
  have g0 := hG.o0
  have hd0 : CA w 0 + 40 ≤ A 1 ∨ A 1 + 40 ≤ CA w 0 := Or.inl (by have := hW.a6; show w + 1 + 40 ≤ A 1; omega)
  refine R_aload_n0 (pc := 0) dX9_reach_0 ?_
  refine G_X9_10 (pc := 1) dX9_reach_1 (by assumption) ?_
  refine G_X9_41 (pc := 4) dX9_reach_4 (by assumption) ?_
  refine R_iload_n1 (pc := 7) dX9_reach_7 ?_
  refine R_callV1 (pc := 8) (T := TX1) cal_X1_known kw444 kw282 kw283 dX9_reach_8 (c_X1_known (by assumption)) (by decide) (Nat.le_of_ble_eq_true rfl) (ci := 1) rfl (by assumption) ?_
  rintro _ _ ⟨⟨z8, hz8, rfl⟩, rfl⟩
  rcases k_known_cases _ _ with ⟨kv8, kz8⟩ | ⟨k8, kl8, kx8, kv8, kz8⟩ <;> (rw [kz8] at hz8; subst hz8)
  · skip
    refine R_astoreN_n2 (pc := 11) dX9_reach_11 rfl (by decide) ?_
    refine R_aloadN_n2 (pc := 12) dX9_reach_12 ?_
    refine R_ifnonnullN (pc := 13) dX9_reach_13 ?_
    refine R_iconst (pc := 16) (v := (-1)) dX9_reach_16 (by decide) ?_
    refine R_iret (pc := 17) rfl rfl dX9_reach_17 ?_
    exact ⟨⟨B.2.1, congrArg (fun z => some (Value.int z)) (by simp (decide := true) only [p_way, p_reach, p_best, kz8, reduceCtorEq, if_true, if_false, reduceIte, and_true, true_and, and_false, false_and, and_self, or_true, true_or, or_false, false_or, or_self, not_true, not_false_iff])⟩, hC, Frm.rf _ _ _⟩
  · skip
    have kg8 := hG.sh kl8
    refine R_astore_n2 (pc := 11) dX9_reach_11 rfl (by decide) ?_
    refine R_aload_n2 (pc := 12) dX9_reach_12 ?_
    refine R_ifnonnull (pc := 13) 18 dX9_reach_13 (by decide) ?_
    refine R_aload_n0 (pc := 18) dX9_reach_18 ?_
    refine G_X9_33 (pc := 19) dX9_reach_19 (by assumption) ?_
    refine R_aload_n0 (pc := 22) dX9_reach_22 ?_
    refine G_X9_10 (pc := 23) dX9_reach_23 (by assumption) ?_
    refine G_X9_41 (pc := 26) dX9_reach_26 (by assumption) ?_
    refine R_aload_n2 (pc := 29) dX9_reach_29 ?_
    refine R_aload_n0 (pc := 30) dX9_reach_30 ?_
    refine G_X9_10 (pc := 31) dX9_reach_31 (by assumption) ?_
    refine G_X9_41 (pc := 34) dX9_reach_34 (by assumption) ?_
    refine R_aload_n2 (pc := 37) dX9_reach_37 ?_
    refine R_callV1 (pc := 38) (T := TX1) cal_X1_stepsNow kw524 kw450 kw451 dX9_reach_38 (c_X1_stepsNow hG kl8) (by decide) (Nat.le_of_ble_eq_true rfl) (ci := 1) rfl (by assumption) ?_
    rintro _ _ ⟨rfl, rfl⟩
    refine R_callV3 (pc := 41) (T := TX6) cal_X6_explore kw525 kw526 kw527 dX9_reach_41 (c_X6_explore hG kl8 (Or.inl (show w + 2 + 13 ≤ w + 325 by omega)) (hm _ kl8) (hh _ kl8).1 (hh _ kl8).2 hR.2.2.2.2.2.2.2) (by decide) (Nat.le_of_ble_eq_true rfl) (ci := 4) rfl c4 ?_
    rintro _ h1 ⟨rfl, hRt, fr0⟩
    obtain ⟨hR1, fr1⟩ := hR.rts hW hRt fr0
    have d0 := hR1.1
    have d1 : h1.2 (CA w 0) = some (.inr (6, ob6 (sA (w + 1)) (fun _ => C.1.2.2.2))) := hR1.2.1.o
    have d4 := hRt.1
    have hG1 : GmAt h1 (sA (w + 1) 0) C.1.1 := hR1.2.1.2.1
    have g1 := hG1.o0
    have hBo := bway_ok (G := C.1.1) (u := k8) (hh _ kl8).1 (hm _ kl8) B.2.1
    refine R_aload_n0 (pc := 44) dX9_reach_44 ?_
    refine G_X9_33 (pc := 45) dX9_reach_45 (by assumption) ?_
    refine R_callV0 (pc := 48) (T := TX6) cal_X6_reachedHexes kw552 kw553 kw554 dX9_reach_48 (c_X6_reachedHexes hRt hBo) (by decide) (Nat.le_of_ble_eq_true rfl) (ci := 4) rfl (by assumption) ?_
    rintro _ _ ⟨rfl, rfl⟩
    refine R_iret (pc := 51) rfl rfl dX9_reach_51 ?_
    refine ⟨⟨B.2.1, congrArg (fun z => some (Value.int z)) ?_⟩, ⟨_, _, _, _, _, _, _, hR1, hW, hV⟩, fr1⟩
    simp (decide := true) only [p_reach, kz8, reduceCtorEq, if_true, if_false, reduceIte, and_true, true_and, and_false, false_and, and_self, or_true, true_or, or_false, false_or, or_self, not_true, not_false_iff]


end LV18
