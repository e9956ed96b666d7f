/-! LEAVES: the class's methods that call little; pure functions k_.. and their contracts -/
def bI (p : Prop) [Decidable p] : Int32 := if p then 1 else 0
theorem bI_t {p : Prop} [Decidable p] (h : p) : bI p = 1 := if_pos h
theorem bI_f {p : Prop} [Decidable p] (h : ¬ p) : bI p = 0 := if_neg h
theorem bI_0 {p : Prop} [Decidable p] : bI p = 0 ↔ ¬ p := by
  unfold bI
  split <;> simp [*]
theorem bI_01 {p : Prop} [Decidable p] : bI p = 0 ∨ bI p = 1 := by
  unfold bI
  split <;> simp
theorem nle {a b : Int32} : a < b ↔ ¬ b ≤ a := Int32.not_le.symm
theorem sw_or {a b : Prop} (h : a ∨ b) : a ∨ b := h
def irm (x y : Int32) : Int32 := x - x / y * y
def kmin (x y : Int32) : Int32 := if y < x then y else x
def kmax (x y : Int32) : Int32 := if x < y then y else x
theorem kwMinS : Cond.static yJ9_min_7cf53 ∈ WSa := kw305
theorem kwMaxS : Cond.static yJ9_max_7cf53 ∈ WSa := kw290
theorem kwMathI : Cond.initialized "java/lang/Math" ∈ WSa := kw31
theorem kwMinC : Cond.code yJ9_min_7cf53 Lib.Math.min.code 2 (some .int) ∈ WSa := kw306
theorem kwMaxC : Cond.code yJ9_max_7cf53 Lib.Math.max.code 2 (some .int) ∈ WSa := kw291
section RB
variable {l : Launch} {D : va_G} {cA : Nat → ClassId} {N0 : Nat} {own : String} {cc : ByteArray} {nL : Nat} {ret : Option FieldType} {nm : String} {R : Room} {X : State → Prop} {F : List Frame → Array Value → State → State → Prop} {h : AH} {k n pc : Nat} {L : List (Option Value)} {st : List Value}
theorem R_ifb_eq {p : Prop} [Decidable p] {off : Int} (tgt : Nat) (hd : decode cc pc = .ok (.ifCond .eq off, 3)) (ht : (pc : Int) + off = (tgt : Int)) (kt : ¬ p → Run l D cA N0 own cc nL ret nm R X F h k n tgt L st) (kf : p → Run l D cA N0 own cc nL ret nm R X F h k n (pc + 3) L st) : Run l D cA N0 own cc nL ret nm R X F h k n pc L (.int (bI p) :: st) :=
  R_if_eq tgt hd ht (fun q => kt (bI_0.mp q)) (fun q => kf (Classical.not_not.mp fun z => q (bI_0.mpr z)))
theorem R_ifb_ne {p : Prop} [Decidable p] {off : Int} (tgt : Nat) (hd : decode cc pc = .ok (.ifCond .ne off, 3)) (ht : (pc : Int) + off = (tgt : Int)) (kt : p → Run l D cA N0 own cc nL ret nm R X F h k n tgt L st) (kf : ¬ p → Run l D cA N0 own cc nL ret nm R X F h k n (pc + 3) L st) : Run l D cA N0 own cc nL ret nm R X F h k n pc L (.int (bI p) :: st) :=
  R_if_ne tgt hd ht (fun q => kt (Classical.not_not.mp fun z => q (bI_0.mpr z))) (fun q => kf (bI_0.mp q))
theorem R_mmin {x y : Int32} {idx : Nat} (hw : Cond.methodLink own idx yJ9_min_7cf53 ∈ WSa) (hd : decode cc pc = .ok (.invokestatic idx, 3)) (hf : 1 ≤ R.frames) (hcat : decide ((st.map fun v => v.category).sum ≤ 8) = true) (hlo : 8 + 13 ≤ R.locals) (hkn : k ≤ R.cells ∧ n ≤ R.slots) (kk : Run l D cA N0 own cc nL ret nm R X F h k n (pc + 3) L (.int (kmin x y) :: st)) : Run l D cA N0 own cc nL ret nm R X F h k n pc L (.int y :: .int x :: st) := by
  intro p e s m args below meth c H locs ls Cc hR hS hL
  obtain ⟨hx, hb, hml, hrt, hlk, hown, hnm, hts, hK, hN, hX⟩ := id Cc
  have hcat := of_decide_eq_true hcat
  exact va_mmin hx hb (by rw [hml]; exact hL.1.symm) hown (hts _ hw) (hts _ kwMinS) (hts _ kwMathI) (hts _ kwMinC) hf (by omega) hkn.1 hkn.2 hd (kk p e s m args below meth c H locs ls Cc hR hS hL)
theorem R_mmax {x y : Int32} {idx : Nat} (hw : Cond.methodLink own idx yJ9_max_7cf53 ∈ WSa) (hd : decode cc pc = .ok (.invokestatic idx, 3)) (hf : 1 ≤ R.frames) (hcat : decide ((st.map fun v => v.category).sum ≤ 8) = true) (hlo : 8 + 13 ≤ R.locals) (hkn : k ≤ R.cells ∧ n ≤ R.slots) (kk : Run l D cA N0 own cc nL ret nm R X F h k n (pc + 3) L (.int (kmax x y) :: st)) : Run l D cA N0 own cc nL ret nm R X F h k n pc L (.int y :: .int x :: st) := by
  intro p e s m args below meth c H locs ls Cc hR hS hL
  obtain ⟨hx, hb, hml, hrt, hlk, hown, hnm, hts, hK, hN, hX⟩ := id Cc
  have hcat := of_decide_eq_true hcat
  exact va_mmax hx hb (by rw [hml]; exact hL.1.symm) hown (hts _ hw) (hts _ kwMaxS) (hts _ kwMathI) (hts _ kwMaxC) hf (by omega) hkn.1 hkn.2 hd (kk p e s m args below meth c H locs ls Cc hR hS hL)
end RB
section LV4
variable {l : Launch} {D : va_G} {cA : Nat → ClassId} {N0 : Nat} {h : AH}
def kbit (x : Int32) : Int32 :=
  let u := fun (x y : Int32) => (x.toUInt32 >>> (y.toUInt32 &&& Int32.toUInt32 31)).toInt32
  let a := x - (u x 1 &&& 1431655765)
  let b := (a &&& 858993459) + (u a 2 &&& 858993459)
  let c := (b + u b 4) &&& 252645135
  let d := c + u c 8
  let e := d + u d 16
  e &&& 63
set_option maxHeartbeats 4000000 in
set_option maxRecDepth 100000 in
theorem c_J6_bitCount_0f7a4 {x : Int32} : Spec l D cA N0 m_J6_bitCount_0f7a4 0 0 0 [.int x] h (fun r h' => r = some (.int (kbit x)) ∧ h' = h) := by
  refine Spec.of (L := [some (.int x)]) (by decide) rfl (Nat.le_of_ble_eq_true rfl) ?_
  refine R_iload_n0 (pc := 0) dJ6_bitCount_0f7a4_0 ?_
  refine R_iload_n0 (pc := 1) dJ6_bitCount_0f7a4_1 ?_
  refine R_iconst (pc := 2) (v := 1) dJ6_bitCount_0f7a4_2 (by decide) ?_
  refine R_iushr (pc := 3) dJ6_bitCount_0f7a4_3 ?_
  refine R_ldcw (pc := 4) dJ6_bitCount_0f7a4_4 kw346 ?_
  refine R_iand (pc := 7) dJ6_bitCount_0f7a4_7 ?_
  refine R_isub (pc := 8) dJ6_bitCount_0f7a4_8 ?_
  refine R_istore_n0 (pc := 9) dJ6_bitCount_0f7a4_9 rfl (by decide) ?_
  refine R_iload_n0 (pc := 10) dJ6_bitCount_0f7a4_10 ?_
  refine R_ldcw (pc := 11) dJ6_bitCount_0f7a4_11 kw347 ?_
  refine R_iand (pc := 14) dJ6_bitCount_0f7a4_14 ?_
  refine R_iload_n0 (pc := 15) dJ6_bitCount_0f7a4_15 ?_
  refine R_iconst (pc := 16) (v := 2) dJ6_bitCount_0f7a4_16 (by decide) ?_
  refine R_iushr (pc := 17) dJ6_bitCount_0f7a4_17 ?_
  refine R_ldcw (pc := 18) dJ6_bitCount_0f7a4_18 kw347 ?_
  refine R_iand (pc := 21) dJ6_bitCount_0f7a4_21 ?_
  refine R_iadd (pc := 22) dJ6_bitCount_0f7a4_22 ?_
  refine R_istore_n0 (pc := 23) dJ6_bitCount_0f7a4_23 rfl (by decide) ?_
  refine R_iload_n0 (pc := 24) dJ6_bitCount_0f7a4_24 ?_
  refine R_iload_n0 (pc := 25) dJ6_bitCount_0f7a4_25 ?_
  refine R_iconst (pc := 26) (v := 4) dJ6_bitCount_0f7a4_26 (by decide) ?_
  refine R_iushr (pc := 27) dJ6_bitCount_0f7a4_27 ?_
  refine R_iadd (pc := 28) dJ6_bitCount_0f7a4_28 ?_
  refine R_ldcw (pc := 29) dJ6_bitCount_0f7a4_29 kw348 ?_
  refine R_iand (pc := 32) dJ6_bitCount_0f7a4_32 ?_
  refine R_istore_n0 (pc := 33) dJ6_bitCount_0f7a4_33 rfl (by decide) ?_
  refine R_iload_n0 (pc := 34) dJ6_bitCount_0f7a4_34 ?_
  refine R_iload_n0 (pc := 35) dJ6_bitCount_0f7a4_35 ?_
  refine R_bipush (pc := 36) (v := 8) dJ6_bitCount_0f7a4_36 (by decide) ?_
  refine R_iushr (pc := 38) dJ6_bitCount_0f7a4_38 ?_
  refine R_iadd (pc := 39) dJ6_bitCount_0f7a4_39 ?_
  refine R_istore_n0 (pc := 40) dJ6_bitCount_0f7a4_40 rfl (by decide) ?_
  refine R_iload_n0 (pc := 41) dJ6_bitCount_0f7a4_41 ?_
  refine R_iload_n0 (pc := 42) dJ6_bitCount_0f7a4_42 ?_
  refine R_bipush (pc := 43) (v := 16) dJ6_bitCount_0f7a4_43 (by decide) ?_
  refine R_iushr (pc := 45) dJ6_bitCount_0f7a4_45 ?_
  refine R_iadd (pc := 46) dJ6_bitCount_0f7a4_46 ?_
  refine R_istore_n0 (pc := 47) dJ6_bitCount_0f7a4_47 rfl (by decide) ?_
  refine R_iload_n0 (pc := 48) dJ6_bitCount_0f7a4_48 ?_
  refine R_bipush (pc := 49) (v := 63) dJ6_bitCount_0f7a4_49 (by decide) ?_
  refine R_iand (pc := 51) dJ6_bitCount_0f7a4_51 ?_
  refine R_iret (pc := 52) rfl rfl dJ6_bitCount_0f7a4_52 ?_
  exact ⟨rfl, rfl⟩

set_option maxHeartbeats 4000000 in
set_option maxRecDepth 100000 in
theorem c_X0_exists {x : Int32} : Spec l D cA N0 m_X0_exists 0 0 0 [.int x] h (fun r h' => r = some (.int (bI (x = 0 ∨ x = 1))) ∧ h' = h) := by
  refine Spec.of (L := [some (.int x)]) (by decide) rfl (Nat.le_of_ble_eq_true rfl) ?_
  refine R_iload_n0 (pc := 0) dX0_exists_0 ?_
  refine R_if_eq (pc := 1) 9 dX0_exists_1 (by decide) (fun c_1 => ?_) (fun c_1 => ?_)
  · skip
    refine R_iconst (pc := 9) (v := 1) dX0_exists_9 (by decide) ?_
    refine R_goto (pc := 10) 14 dX0_exists_10 (by decide) ?_
    refine R_iret (pc := 14) rfl rfl dX0_exists_14 ?_
    exact ⟨by simp [bI, c_1], rfl⟩
  · skip
    refine R_iload_n0 (pc := 4) dX0_exists_4 ?_
    refine R_iconst (pc := 5) (v := 1) dX0_exists_5 (by decide) ?_
    refine R_icmp_ne (pc := 6) 13 dX0_exists_6 (by decide) (fun c_6 => ?_) (fun c_6 => ?_)
    · skip
      refine R_iconst (pc := 13) (v := 0) dX0_exists_13 (by decide) ?_
      refine R_iret (pc := 14) rfl rfl dX0_exists_14 ?_
      exact ⟨by simp [bI, c_1, c_6], rfl⟩
    · skip
      refine R_iconst (pc := 9) (v := 1) dX0_exists_9 (by decide) ?_
      refine R_goto (pc := 10) 14 dX0_exists_10 (by decide) ?_
      refine R_iret (pc := 14) rfl rfl dX0_exists_14 ?_
      exact ⟨by simp [bI, c_1, c_6], rfl⟩

set_option maxHeartbeats 4000000 in
set_option maxRecDepth 100000 in
theorem c_X0_isCard {x : Int32} : Spec l D cA N0 m_X0_isCard 0 0 0 [.int x] h (fun r h' => r = some (.int (bI (0 ≤ x ∧ x < 6))) ∧ h' = h) := by
  refine Spec.of (L := [some (.int x)]) (by decide) rfl (Nat.le_of_ble_eq_true rfl) ?_
  refine R_iload_n0 (pc := 0) dX0_isCard_0 ?_
  refine R_if_lt (pc := 1) 14 dX0_isCard_1 (by decide) (fun c_1 => ?_) (fun c_1 => ?_)
  · skip
    have d_1 := Int32.not_le.mpr c_1
    refine R_iconst (pc := 14) (v := 0) dX0_isCard_14 (by decide) ?_
    refine R_iret (pc := 15) rfl rfl dX0_isCard_15 ?_
    exact ⟨by simp [bI, c_1, d_1], rfl⟩
  · skip
    have d_1 := Int32.not_lt.mp c_1
    refine R_iload_n0 (pc := 4) dX0_isCard_4 ?_
    refine R_bipush (pc := 5) (v := 6) dX0_isCard_5 (by decide) ?_
    refine R_icmp_ge (pc := 7) 14 dX0_isCard_7 (by decide) (fun c_7 => ?_) (fun c_7 => ?_)
    · skip
      have d_7 := Int32.not_lt.mpr c_7
      refine R_iconst (pc := 14) (v := 0) dX0_isCard_14 (by decide) ?_
      refine R_iret (pc := 15) rfl rfl dX0_isCard_15 ?_
      exact ⟨by simp [bI, c_1, d_1, c_7, d_7], rfl⟩
    · skip
      have d_7 := Int32.not_le.mp c_7
      refine R_iconst (pc := 10) (v := 1) dX0_isCard_10 (by decide) ?_
      refine R_goto (pc := 11) 15 dX0_isCard_11 (by decide) ?_
      refine R_iret (pc := 15) rfl rfl dX0_isCard_15 ?_
      exact ⟨by simp [bI, c_1, d_1, c_7, d_7], rfl⟩

set_option maxHeartbeats 4000000 in
set_option maxRecDepth 100000 in
theorem c_X2_exists {x : Int32} : Spec l D cA N0 m_X2_exists 0 0 0 [.int x] h (fun r h' => r = some (.int (bI (0 ≤ x ∧ x < 81))) ∧ h' = h) := by
  refine Spec.of (L := [some (.int x)]) (by decide) rfl (Nat.le_of_ble_eq_true rfl) ?_
  refine R_iload_n0 (pc := 0) dX2_exists_0 ?_
  refine R_if_lt (pc := 1) 14 dX2_exists_1 (by decide) (fun c_1 => ?_) (fun c_1 => ?_)
  · skip
    have d_1 := Int32.not_le.mpr c_1
    refine R_iconst (pc := 14) (v := 0) dX2_exists_14 (by decide) ?_
    refine R_iret (pc := 15) rfl rfl dX2_exists_15 ?_
    exact ⟨by simp [bI, c_1, d_1], rfl⟩
  · skip
    have d_1 := Int32.not_lt.mp c_1
    refine R_iload_n0 (pc := 4) dX2_exists_4 ?_
    refine R_bipush (pc := 5) (v := 81) dX2_exists_5 (by decide) ?_
    refine R_icmp_ge (pc := 7) 14 dX2_exists_7 (by decide) (fun c_7 => ?_) (fun c_7 => ?_)
    · skip
      have d_7 := Int32.not_lt.mpr c_7
      refine R_iconst (pc := 14) (v := 0) dX2_exists_14 (by decide) ?_
      refine R_iret (pc := 15) rfl rfl dX2_exists_15 ?_
      exact ⟨by simp [bI, c_1, d_1, c_7, d_7], rfl⟩
    · skip
      have d_7 := Int32.not_le.mp c_7
      refine R_iconst (pc := 10) (v := 1) dX2_exists_10 (by decide) ?_
      refine R_goto (pc := 11) 15 dX2_exists_11 (by decide) ?_
      refine R_iret (pc := 15) rfl rfl dX2_exists_15 ?_
      exact ⟨by simp [bI, c_1, d_1, c_7, d_7], rfl⟩

set_option maxHeartbeats 4000000 in
set_option maxRecDepth 100000 in
theorem c_X2_isDirection {x : Int32} : Spec l D cA N0 m_X2_isDirection 0 0 0 [.int x] h (fun r h' => r = some (.int (bI (0 ≤ x ∧ x < 6))) ∧ h' = h) := by
  refine Spec.of (L := [some (.int x)]) (by decide) rfl (Nat.le_of_ble_eq_true rfl) ?_
  refine R_iload_n0 (pc := 0) dX2_isDirection_0 ?_
  refine R_if_lt (pc := 1) 14 dX2_isDirection_1 (by decide) (fun c_1 => ?_) (fun c_1 => ?_)
  · skip
    have d_1 := Int32.not_le.mpr c_1
    refine R_iconst (pc := 14) (v := 0) dX2_isDirection_14 (by decide) ?_
    refine R_iret (pc := 15) rfl rfl dX2_isDirection_15 ?_
    exact ⟨by simp [bI, c_1, d_1], rfl⟩
  · skip
    have d_1 := Int32.not_lt.mp c_1
    refine R_iload_n0 (pc := 4) dX2_isDirection_4 ?_
    refine R_bipush (pc := 5) (v := 6) dX2_isDirection_5 (by decide) ?_
    refine R_icmp_ge (pc := 7) 14 dX2_isDirection_7 (by decide) (fun c_7 => ?_) (fun c_7 => ?_)
    · skip
      have d_7 := Int32.not_lt.mpr c_7
      refine R_iconst (pc := 14) (v := 0) dX2_isDirection_14 (by decide) ?_
      refine R_iret (pc := 15) rfl rfl dX2_isDirection_15 ?_
      exact ⟨by simp [bI, c_1, d_1, c_7, d_7], rfl⟩
    · skip
      have d_7 := Int32.not_le.mp c_7
      refine R_iconst (pc := 10) (v := 1) dX2_isDirection_10 (by decide) ?_
      refine R_goto (pc := 11) 15 dX2_isDirection_11 (by decide) ?_
      refine R_iret (pc := 15) rfl rfl dX2_isDirection_15 ?_
      exact ⟨by simp [bI, c_1, d_1, c_7, d_7], rfl⟩

set_option maxHeartbeats 4000000 in
set_option maxRecDepth 100000 in
theorem c_X7_hasSide {x : Int32} : Spec l D cA N0 m_X7_hasSide 0 0 0 [.int x] h (fun r h' => r = some (.int (bI (x = 0 ∨ x = 1))) ∧ h' = h) := by
  refine Spec.of (L := [some (.int x)]) (by decide) rfl (Nat.le_of_ble_eq_true rfl) ?_
  refine R_iload_n0 (pc := 0) dX7_hasSide_0 ?_
  refine R_if_eq (pc := 1) 9 dX7_hasSide_1 (by decide) (fun c_1 => ?_) (fun c_1 => ?_)
  · skip
    refine R_iconst (pc := 9) (v := 1) dX7_hasSide_9 (by decide) ?_
    refine R_goto (pc := 10) 14 dX7_hasSide_10 (by decide) ?_
    refine R_iret (pc := 14) rfl rfl dX7_hasSide_14 ?_
    exact ⟨by simp [bI, c_1], rfl⟩
  · skip
    refine R_iload_n0 (pc := 4) dX7_hasSide_4 ?_
    refine R_iconst (pc := 5) (v := 1) dX7_hasSide_5 (by decide) ?_
    refine R_icmp_ne (pc := 6) 13 dX7_hasSide_6 (by decide) (fun c_6 => ?_) (fun c_6 => ?_)
    · skip
      refine R_iconst (pc := 13) (v := 0) dX7_hasSide_13 (by decide) ?_
      refine R_iret (pc := 14) rfl rfl dX7_hasSide_14 ?_
      exact ⟨by simp [bI, c_1, c_6], rfl⟩
    · skip
      refine R_iconst (pc := 9) (v := 1) dX7_hasSide_9 (by decide) ?_
      refine R_goto (pc := 10) 14 dX7_hasSide_10 (by decide) ?_
      refine R_iret (pc := 14) rfl rfl dX7_hasSide_14 ?_
      exact ⟨by simp [bI, c_1, c_6], rfl⟩

set_option maxHeartbeats 4000000 in
set_option maxRecDepth 100000 in
theorem c_X7_floats {a : Nat} {A : Nat → Nat} {Fv : Nat → Int32} (ha : h.2 a = some (.inr (5, ob5 A Fv))) : Spec l D cA N0 m_X7_floats 0 0 0 [.ref a] h (fun r h' => r = some (.int (bI (0 < Fv 4))) ∧ h' = h) := by
  refine Spec.of (L := [some (.ref a)]) (by decide) rfl (Nat.le_of_ble_eq_true rfl) ?_
  refine R_aload_n0 (pc := 0) dX7_floats_0 ?_
  refine G_X7_27 (pc := 1) dX7_floats_1 (by assumption) ?_
  refine R_if_le (pc := 4) 11 dX7_floats_4 (by decide) (fun c_4 => ?_) (fun c_4 => ?_)
  · skip
    have d_4 := Int32.not_lt.mpr c_4
    refine R_iconst (pc := 11) (v := 0) dX7_floats_11 (by decide) ?_
    refine R_iret (pc := 12) rfl rfl dX7_floats_12 ?_
    exact ⟨by simp [bI, c_4, d_4], rfl⟩
  · skip
    have d_4 := Int32.not_le.mp c_4
    refine R_iconst (pc := 7) (v := 1) dX7_floats_7 (by decide) ?_
    refine R_goto (pc := 8) 12 dX7_floats_8 (by decide) ?_
    refine R_iret (pc := 12) rfl rfl dX7_floats_12 ?_
    exact ⟨by simp [bI, c_4, d_4], rfl⟩

set_option maxHeartbeats 4000000 in
set_option maxRecDepth 100000 in
theorem c_X7_isGrappled {a : Nat} {A : Nat → Nat} {Fv : Nat → Int32} (ha : h.2 a = some (.inr (5, ob5 A Fv))) : Spec l D cA N0 m_X7_isGrappled 0 0 0 [.ref a] h (fun r h' => r = some (.int (bI (¬ Fv 8 = -9))) ∧ h' = h) := by
  refine Spec.of (L := [some (.ref a)]) (by decide) rfl (Nat.le_of_ble_eq_true rfl) ?_
  refine R_aload_n0 (pc := 0) dX7_isGrappled_0 ?_
  refine G_X7_9 (pc := 1) dX7_isGrappled_1 (by assumption) ?_
  refine R_bipush (pc := 4) (v := (-9)) dX7_isGrappled_4 (by decide) ?_
  refine R_icmp_eq (pc := 6) 13 dX7_isGrappled_6 (by decide) (fun c_6 => ?_) (fun c_6 => ?_)
  · skip
    refine R_iconst (pc := 13) (v := 0) dX7_isGrappled_13 (by decide) ?_
    refine R_iret (pc := 14) rfl rfl dX7_isGrappled_14 ?_
    exact ⟨by simp [bI, c_6], rfl⟩
  · skip
    refine R_iconst (pc := 9) (v := 1) dX7_isGrappled_9 (by decide) ?_
    refine R_goto (pc := 10) 14 dX7_isGrappled_10 (by decide) ?_
    refine R_iret (pc := 14) rfl rfl dX7_isGrappled_14 ?_
    exact ⟨by simp [bI, c_6], rfl⟩

set_option maxHeartbeats 4000000 in
set_option maxRecDepth 100000 in
theorem c_X7_has {a : Nat} {A : Nat → Nat} {Fv : Nat → Int32} {x : Int32} (ha : h.2 a = some (.inr (5, ob5 A Fv))) : Spec l D cA N0 m_X7_has 0 0 0 [.ref a, .int x] h (fun r h' => r = some (.int (bI (¬ Fv 11 &&& x = 0))) ∧ h' = h) := by
  refine Spec.of (L := [some (.ref a), some (.int x)]) (by decide) rfl (Nat.le_of_ble_eq_true rfl) ?_
  refine R_aload_n0 (pc := 0) dX7_has_0 ?_
  refine G_X7_45 (pc := 1) dX7_has_1 (by assumption) ?_
  refine R_iload_n1 (pc := 4) dX7_has_4 ?_
  refine R_iand (pc := 5) dX7_has_5 ?_
  refine R_if_eq (pc := 6) 13 dX7_has_6 (by decide) (fun c_6 => ?_) (fun c_6 => ?_)
  · skip
    refine R_iconst (pc := 13) (v := 0) dX7_has_13 (by decide) ?_
    refine R_iret (pc := 14) rfl rfl dX7_has_14 ?_
    exact ⟨by simp [bI, c_6], rfl⟩
  · skip
    refine R_iconst (pc := 9) (v := 1) dX7_has_9 (by decide) ?_
    refine R_goto (pc := 10) 14 dX7_has_10 (by decide) ?_
    refine R_iret (pc := 14) rfl rfl dX7_has_14 ?_
    exact ⟨by simp [bI, c_6], rfl⟩

def k_sf (Fv : Nat → Int32) (w : Int32) : Int32 :=
  let t := if Fv 3 - w < 0 then Fv 3 - w + 6 else Fv 3 - w
  if t = 0 then 6 else if t = 1 ∨ t = 5 then 8 else if t = 2 ∨ t = 4 then 4 else 0
theorem k_sf_o {t : Int32} (h : t.toInt < 0 ∨ 5 < t.toInt) : ¬ t = 0 ∧ ¬ t = 1 ∧ ¬ t = 2 ∧ ¬ t = 4 ∧ ¬ t = 5 := by
  refine ⟨?_, ?_, ?_, ?_, ?_⟩ <;> (rintro rfl; revert h; decide)
set_option maxHeartbeats 4000000 in
set_option maxRecDepth 100000 in
theorem c_X7_speedFactor {a : Nat} {A : Nat → Nat} {Fv : Nat → Int32} {w : Int32} (ha : h.2 a = some (.inr (5, ob5 A Fv))) : Spec l D cA N0 m_X7_speedFactor 0 0 0 [.ref a, .int w] h (fun r h' => r = some (.int (k_sf Fv w)) ∧ h' = h) := by
  refine Spec.of (L := [some (.ref a), some (.int w), none]) (by decide) rfl (Nat.le_of_ble_eq_true rfl) ?_
  refine R_aload_n0 (pc := 0) dX7_speedFactor_0 ?_
  refine G_X7_24 (pc := 1) dX7_speedFactor_1 (by assumption) ?_
  refine R_iload_n1 (pc := 4) dX7_speedFactor_4 ?_
  refine R_isub (pc := 5) dX7_speedFactor_5 ?_
  refine R_istore_n2 (pc := 6) dX7_speedFactor_6 rfl (by decide) ?_
  refine R_iload_n2 (pc := 7) dX7_speedFactor_7 ?_
  refine R_if_ge (pc := 8) 18 dX7_speedFactor_8 (by decide) (fun c_8 => ?_) (fun c_8 => ?_)
  · skip
    have d_8 := Int32.not_lt.mpr c_8
    refine R_iload_n2 (pc := 18) dX7_speedFactor_18 ?_
    refine R_swG (pc := 19) (lo := 0) (hi := 5) 64 dX7_speedFactor_19 (by decide) (fun c_19 => ?_) (fun c_19 c_19b => ?_)
    · skip
      refine R_iconst (pc := 64) (v := 0) dX7_speedFactor_64 (by decide) ?_
      refine R_iret (pc := 65) rfl rfl dX7_speedFactor_65 ?_
      exact ⟨by simp [k_sf, c_8, d_8, k_sf_o c_19], rfl⟩
    · skip
      rcases sw_0_5 _ c_19 c_19b with c_19 | c_19 | c_19 | c_19 | c_19 | c_19
      · skip
        refine R_swE (pc := 19) (v := 0) (off := 37) 56 dX7_speedFactor_19 c_19 (by decide) (by decide) (by decide) (by decide) ?_
        refine R_bipush (pc := 56) (v := 6) dX7_speedFactor_56 (by decide) ?_
        refine R_iret (pc := 58) rfl rfl dX7_speedFactor_58 ?_
        exact ⟨by simp [k_sf, c_8, d_8, c_19], rfl⟩
      · skip
        refine R_swE (pc := 19) (v := 1) (off := 40) 59 dX7_speedFactor_19 c_19 (by decide) (by decide) (by decide) (by decide) ?_
        refine R_bipush (pc := 59) (v := 8) dX7_speedFactor_59 (by decide) ?_
        refine R_iret (pc := 61) rfl rfl dX7_speedFactor_61 ?_
        exact ⟨by simp [k_sf, c_8, d_8, c_19], rfl⟩
      · skip
        refine R_swE (pc := 19) (v := 2) (off := 43) 62 dX7_speedFactor_19 c_19 (by decide) (by decide) (by decide) (by decide) ?_
        refine R_iconst (pc := 62) (v := 4) dX7_speedFactor_62 (by decide) ?_
        refine R_iret (pc := 63) rfl rfl dX7_speedFactor_63 ?_
        exact ⟨by simp [k_sf, c_8, d_8, c_19], rfl⟩
      · skip
        refine R_swE (pc := 19) (v := 3) (off := 45) 64 dX7_speedFactor_19 c_19 (by decide) (by decide) (by decide) (by decide) ?_
        refine R_iconst (pc := 64) (v := 0) dX7_speedFactor_64 (by decide) ?_
        refine R_iret (pc := 65) rfl rfl dX7_speedFactor_65 ?_
        exact ⟨by simp [k_sf, c_8, d_8, c_19], rfl⟩
      · skip
        refine R_swE (pc := 19) (v := 4) (off := 43) 62 dX7_speedFactor_19 c_19 (by decide) (by decide) (by decide) (by decide) ?_
        refine R_iconst (pc := 62) (v := 4) dX7_speedFactor_62 (by decide) ?_
        refine R_iret (pc := 63) rfl rfl dX7_speedFactor_63 ?_
        exact ⟨by simp [k_sf, c_8, d_8, c_19], rfl⟩
      · skip
        refine R_swE (pc := 19) (v := 5) (off := 40) 59 dX7_speedFactor_19 c_19 (by decide) (by decide) (by decide) (by decide) ?_
        refine R_bipush (pc := 59) (v := 8) dX7_speedFactor_59 (by decide) ?_
        refine R_iret (pc := 61) rfl rfl dX7_speedFactor_61 ?_
        exact ⟨by simp [k_sf, c_8, d_8, c_19], rfl⟩
  · skip
    have d_8 := Int32.not_le.mp c_8
    refine R_iload_n2 (pc := 11) dX7_speedFactor_11 ?_
    refine R_bipush (pc := 12) (v := 6) dX7_speedFactor_12 (by decide) ?_
    refine R_iadd (pc := 14) dX7_speedFactor_14 ?_
    refine R_goto (pc := 15) 19 dX7_speedFactor_15 (by decide) ?_
    refine R_swG (pc := 19) (lo := 0) (hi := 5) 64 dX7_speedFactor_19 (by decide) (fun c_19 => ?_) (fun c_19 c_19b => ?_)
    · skip
      refine R_iconst (pc := 64) (v := 0) dX7_speedFactor_64 (by decide) ?_
      refine R_iret (pc := 65) rfl rfl dX7_speedFactor_65 ?_
      exact ⟨by simp [k_sf, c_8, d_8, k_sf_o c_19], rfl⟩
    · skip
      rcases sw_0_5 _ c_19 c_19b with c_19 | c_19 | c_19 | c_19 | c_19 | c_19
      · skip
        refine R_swE (pc := 19) (v := 0) (off := 37) 56 dX7_speedFactor_19 c_19 (by decide) (by decide) (by decide) (by decide) ?_
        refine R_bipush (pc := 56) (v := 6) dX7_speedFactor_56 (by decide) ?_
        refine R_iret (pc := 58) rfl rfl dX7_speedFactor_58 ?_
        exact ⟨by simp [k_sf, c_8, d_8, c_19], rfl⟩
      · skip
        refine R_swE (pc := 19) (v := 1) (off := 40) 59 dX7_speedFactor_19 c_19 (by decide) (by decide) (by decide) (by decide) ?_
        refine R_bipush (pc := 59) (v := 8) dX7_speedFactor_59 (by decide) ?_
        refine R_iret (pc := 61) rfl rfl dX7_speedFactor_61 ?_
        exact ⟨by simp [k_sf, c_8, d_8, c_19], rfl⟩
      · skip
        refine R_swE (pc := 19) (v := 2) (off := 43) 62 dX7_speedFactor_19 c_19 (by decide) (by decide) (by decide) (by decide) ?_
        refine R_iconst (pc := 62) (v := 4) dX7_speedFactor_62 (by decide) ?_
        refine R_iret (pc := 63) rfl rfl dX7_speedFactor_63 ?_
        exact ⟨by simp [k_sf, c_8, d_8, c_19], rfl⟩
      · skip
        refine R_swE (pc := 19) (v := 3) (off := 45) 64 dX7_speedFactor_19 c_19 (by decide) (by decide) (by decide) (by decide) ?_
        refine R_iconst (pc := 64) (v := 0) dX7_speedFactor_64 (by decide) ?_
        refine R_iret (pc := 65) rfl rfl dX7_speedFactor_65 ?_
        exact ⟨by simp [k_sf, c_8, d_8, c_19], rfl⟩
      · skip
        refine R_swE (pc := 19) (v := 4) (off := 43) 62 dX7_speedFactor_19 c_19 (by decide) (by decide) (by decide) (by decide) ?_
        refine R_iconst (pc := 62) (v := 4) dX7_speedFactor_62 (by decide) ?_
        refine R_iret (pc := 63) rfl rfl dX7_speedFactor_63 ?_
        exact ⟨by simp [k_sf, c_8, d_8, c_19], rfl⟩
      · skip
        refine R_swE (pc := 19) (v := 5) (off := 40) 59 dX7_speedFactor_19 c_19 (by decide) (by decide) (by decide) (by decide) ?_
        refine R_bipush (pc := 59) (v := 8) dX7_speedFactor_59 (by decide) ?_
        refine R_iret (pc := 61) rfl rfl dX7_speedFactor_61 ?_
        exact ⟨by simp [k_sf, c_8, d_8, c_19], rfl⟩

def k_steps (Fv : Nat → Int32) (w s : Int32) : Int32 := if ¬ 0 < Fv 4 ∨ ¬ Fv 8 = -9 then 0 else k_sf Fv w * s * kmin (Fv 5) (Fv 6) / 32
set_option maxHeartbeats 4000000 in
set_option maxRecDepth 100000 in
theorem c_X7_stepsBy {a : Nat} {A : Nat → Nat} {Fv : Nat → Int32} {w s : Int32} (ha : h.2 a = some (.inr (5, ob5 A Fv))) : Spec l D cA N0 m_X7_stepsBy 1 0 0 [.ref a, .int w, .int s] h (fun r h' => r = some (.int (k_steps Fv w s)) ∧ h' = h) := by
  refine Spec.of (L := [some (.ref a), some (.int w), some (.int s)]) (by decide) rfl (Nat.le_of_ble_eq_true rfl) ?_
  refine R_aload_n0 (pc := 0) dX7_stepsBy_0 ?_
  refine R_callV0 (pc := 1) (T := TX7) cal_X7_floats kw457 kw370 kw371 dX7_stepsBy_1 (c_X7_floats (by assumption)) (by decide) (Nat.le_of_ble_eq_true rfl) (ci := 5) rfl (by assumption) ?_
  rintro _ _ ⟨rfl, rfl⟩
  refine R_ifb_eq (pc := 4) 14 dX7_stepsBy_4 (by decide) (fun c_4 => ?_) (fun c_4 => ?_)
  · skip
    refine R_iconst (pc := 14) (v := 0) dX7_stepsBy_14 (by decide) ?_
    refine R_iret (pc := 15) rfl rfl dX7_stepsBy_15 ?_
    exact ⟨by simp only [k_steps, c_4, not_true, not_false_iff, or_true, true_or, or_self, if_true, if_false], rfl⟩
  · skip
    refine R_aload_n0 (pc := 7) dX7_stepsBy_7 ?_
    refine R_callV0 (pc := 8) (T := TX7) cal_X7_isGrappled kw458 kw459 kw460 dX7_stepsBy_8 (c_X7_isGrappled (by assumption)) (by decide) (Nat.le_of_ble_eq_true rfl) (ci := 5) rfl (by assumption) ?_
    rintro _ _ ⟨rfl, rfl⟩
    refine R_ifb_eq (pc := 11) 16 dX7_stepsBy_11 (by decide) (fun c_11 => ?_) (fun c_11 => ?_)
    · skip
      refine R_aload_n0 (pc := 16) dX7_stepsBy_16 ?_
      refine R_iload_n1 (pc := 17) dX7_stepsBy_17 ?_
      refine R_callV1 (pc := 18) (T := TX7) cal_X7_speedFactor kw462 kw464 kw10 dX7_stepsBy_18 (c_X7_speedFactor (by assumption)) (by decide) (Nat.le_of_ble_eq_true rfl) (ci := 5) rfl (by assumption) ?_
      rintro _ _ ⟨rfl, rfl⟩
      refine R_iload_n2 (pc := 21) dX7_stepsBy_21 ?_
      refine R_imul (pc := 22) dX7_stepsBy_22 ?_
      refine R_aload_n0 (pc := 23) dX7_stepsBy_23 ?_
      refine G_X7_30 (pc := 24) dX7_stepsBy_24 (by assumption) ?_
      refine R_aload_n0 (pc := 27) dX7_stepsBy_27 ?_
      refine G_X7_33 (pc := 28) dX7_stepsBy_28 (by assumption) ?_
      refine R_mmin (pc := 31) kw466 dX7_stepsBy_31 (by decide) rfl (by decide) (by decide) ?_
      refine R_imul (pc := 34) dX7_stepsBy_34 ?_
      refine R_bipush (pc := 35) (v := 32) dX7_stepsBy_35 (by decide) ?_
      refine R_idiv (pc := 37) dX7_stepsBy_37 (by decide) ?_
      refine R_iret (pc := 38) rfl rfl dX7_stepsBy_38 ?_
      exact ⟨by simp only [k_steps, c_4, c_11, not_true, not_false_iff, or_true, true_or, or_self, if_true, if_false], rfl⟩
    · skip
      refine R_iconst (pc := 14) (v := 0) dX7_stepsBy_14 (by decide) ?_
      refine R_iret (pc := 15) rfl rfl dX7_stepsBy_15 ?_
      exact ⟨by simp only [k_steps, c_4, c_11, not_true, not_false_iff, or_true, true_or, or_self, if_true, if_false], rfl⟩

def k_hits (Fv : Nat → Int32) (d : Int32) : Int32 := Fv 7 * (4 - d) * kmin (Fv 6) 8 / 8
set_option maxHeartbeats 4000000 in
set_option maxRecDepth 100000 in
theorem c_X7_hitsFrom {a : Nat} {A : Nat → Nat} {Fv : Nat → Int32} {x : Int32} (ha : h.2 a = some (.inr (5, ob5 A Fv))) : Spec l D cA N0 m_X7_hitsFrom 1 0 0 [.ref a, .int x] h (fun r h' => r = some (.int (k_hits Fv x)) ∧ h' = h) := by
  refine Spec.of (L := [some (.ref a), some (.int x)]) (by decide) rfl (Nat.le_of_ble_eq_true rfl) ?_
  refine R_aload_n0 (pc := 0) dX7_hitsFrom_0 ?_
  refine G_X7_36 (pc := 1) dX7_hitsFrom_1 (by assumption) ?_
  refine R_iconst (pc := 4) (v := 4) dX7_hitsFrom_4 (by decide) ?_
  refine R_iload_n1 (pc := 5) dX7_hitsFrom_5 ?_
  refine R_isub (pc := 6) dX7_hitsFrom_6 ?_
  refine R_imul (pc := 7) dX7_hitsFrom_7 ?_
  refine R_aload_n0 (pc := 8) dX7_hitsFrom_8 ?_
  refine G_X7_33 (pc := 9) dX7_hitsFrom_9 (by assumption) ?_
  refine R_bipush (pc := 12) (v := 8) dX7_hitsFrom_12 (by decide) ?_
  refine R_mmin (pc := 14) kw466 dX7_hitsFrom_14 (by decide) rfl (by decide) (by decide) ?_
  refine R_imul (pc := 17) dX7_hitsFrom_17 ?_
  refine R_bipush (pc := 18) (v := 8) dX7_hitsFrom_18 (by decide) ?_
  refine R_idiv (pc := 20) dX7_hitsFrom_20 (by decide) ?_
  refine R_iret (pc := 21) rfl rfl dX7_hitsFrom_21 ?_
  exact ⟨rfl, rfl⟩

def k_suffer (Fv : Nat → Int32) (s : Int32) : Nat → Int32 := upd (upd (upd (upd Fv 4 (kmax 0 (Fv 4 - s))) 6 (kmax 0 (Fv 6 - s / 3))) 5 (kmax 0 (Fv 5 - s / 4))) 7 (kmax 0 (Fv 7 - s / 6))
theorem hput_hput (h : AH) (a : Nat) (e1 e2 : AE) : hput (hput h a e1) a e2 = hput h a e2 := by
  simp only [hput]
  congr 1
  funext q
  by_cases hq : q = a <;> simp [hq]
set_option maxHeartbeats 4000000 in
set_option maxRecDepth 100000 in
theorem c_X7_suffer {a : Nat} {A : Nat → Nat} {Fv : Nat → Int32} {x : Int32} (ha : h.2 a = some (.inr (5, ob5 A Fv))) : Spec l D cA N0 m_X7_suffer 1 0 0 [.ref a, .int x] h (fun r h' => r = none ∧ h' = hput h a (.inr (5, ob5 A (k_suffer Fv x)))) := by
  refine Spec.of (L := [some (.ref a), some (.int x)]) (by decide) rfl (Nat.le_of_ble_eq_true rfl) ?_
  refine R_aload_n0 (pc := 0) dX7_suffer_0 ?_
  refine R_iconst (pc := 1) (v := 0) dX7_suffer_1 (by decide) ?_
  refine R_aload_n0 (pc := 2) dX7_suffer_2 ?_
  refine G_X7_27 (pc := 3) dX7_suffer_3 (by assumption) ?_
  refine R_iload_n1 (pc := 6) dX7_suffer_6 ?_
  refine R_isub (pc := 7) dX7_suffer_7 ?_
  refine R_mmax (pc := 8) kw638 dX7_suffer_8 (by decide) rfl (by decide) (by decide) ?_
  refine P_X7_27 (pc := 11) dX7_suffer_11 (by assumption) (fun h1 e1 f1 => ?_)
  refine R_aload_n0 (pc := 14) dX7_suffer_14 ?_
  refine R_iconst (pc := 15) (v := 0) dX7_suffer_15 (by decide) ?_
  refine R_aload_n0 (pc := 16) dX7_suffer_16 ?_
  refine G_X7_33 (pc := 17) dX7_suffer_17 (by assumption) ?_
  refine R_iload_n1 (pc := 20) dX7_suffer_20 ?_
  refine R_iconst (pc := 21) (v := 3) dX7_suffer_21 (by decide) ?_
  refine R_idiv (pc := 22) dX7_suffer_22 (by decide) ?_
  refine R_isub (pc := 23) dX7_suffer_23 ?_
  refine R_mmax (pc := 24) kw638 dX7_suffer_24 (by decide) rfl (by decide) (by decide) ?_
  refine P_X7_33 (pc := 27) dX7_suffer_27 (by assumption) (fun h2 e2 f2 => ?_)
  refine R_aload_n0 (pc := 30) dX7_suffer_30 ?_
  refine R_iconst (pc := 31) (v := 0) dX7_suffer_31 (by decide) ?_
  refine R_aload_n0 (pc := 32) dX7_suffer_32 ?_
  refine G_X7_30 (pc := 33) dX7_suffer_33 (by assumption) ?_
  refine R_iload_n1 (pc := 36) dX7_suffer_36 ?_
  refine R_iconst (pc := 37) (v := 4) dX7_suffer_37 (by decide) ?_
  refine R_idiv (pc := 38) dX7_suffer_38 (by decide) ?_
  refine R_isub (pc := 39) dX7_suffer_39 ?_
  refine R_mmax (pc := 40) kw638 dX7_suffer_40 (by decide) rfl (by decide) (by decide) ?_
  refine P_X7_30 (pc := 43) dX7_suffer_43 (by assumption) (fun h3 e3 f3 => ?_)
  refine R_aload_n0 (pc := 46) dX7_suffer_46 ?_
  refine R_iconst (pc := 47) (v := 0) dX7_suffer_47 (by decide) ?_
  refine R_aload_n0 (pc := 48) dX7_suffer_48 ?_
  refine G_X7_36 (pc := 49) dX7_suffer_49 (by assumption) ?_
  refine R_iload_n1 (pc := 52) dX7_suffer_52 ?_
  refine R_bipush (pc := 53) (v := 6) dX7_suffer_53 (by decide) ?_
  refine R_idiv (pc := 55) dX7_suffer_55 (by decide) ?_
  refine R_isub (pc := 56) dX7_suffer_56 ?_
  refine R_mmax (pc := 57) kw638 dX7_suffer_57 (by decide) rfl (by decide) (by decide) ?_
  refine P_X7_36 (pc := 60) dX7_suffer_60 (by assumption) (fun h4 e4 f4 => ?_)
  refine R_vret (pc := 63) rfl dX7_suffer_63 ?_
  exact ⟨rfl, by rw [e4, e3, e2, e1]; simp only [hput_hput]; rfl⟩

def k_note (Fv : Nat → Int32) (s t : Int32) : Nat → Int32 := if s = 0 then upd (upd Fv 9 (t + 2)) 11 (Fv 11 ||| 2) else upd (upd Fv 10 (t + 2)) 11 (Fv 11 ||| 2)
set_option maxHeartbeats 4000000 in
set_option maxRecDepth 100000 in
theorem c_X7_noteShot {a : Nat} {A : Nat → Nat} {Fv : Nat → Int32} {x y : Int32} (ha : h.2 a = some (.inr (5, ob5 A Fv))) : Spec l D cA N0 m_X7_noteShot 0 0 0 [.ref a, .int x, .int y] h (fun r h' => r = none ∧ h' = hput h a (.inr (5, ob5 A (k_note Fv x y)))) := by
  refine Spec.of (L := [some (.ref a), some (.int x), some (.int y)]) (by decide) rfl (Nat.le_of_ble_eq_true rfl) ?_
  refine R_iload_n1 (pc := 0) dX7_noteShot_0 ?_
  refine R_if_ne (pc := 1) 14 dX7_noteShot_1 (by decide) (fun c_1 => ?_) (fun c_1 => ?_)
  · skip
    refine R_aload_n0 (pc := 14) dX7_noteShot_14 ?_
    refine R_iload_n2 (pc := 15) dX7_noteShot_15 ?_
    refine R_iconst (pc := 16) (v := 2) dX7_noteShot_16 (by decide) ?_
    refine R_iadd (pc := 17) dX7_noteShot_17 ?_
    refine P_X7_42 (pc := 18) dX7_noteShot_18 (by assumption) (fun h1 e1 f1 => ?_)
    refine R_aload_n0 (pc := 21) dX7_noteShot_21 ?_
    refine R_dup (pc := 22) dX7_noteShot_22 rfl ?_
    refine G_X7_45 (pc := 23) dX7_noteShot_23 (by assumption) ?_
    refine R_iconst (pc := 26) (v := 2) dX7_noteShot_26 (by decide) ?_
    refine R_ior (pc := 27) dX7_noteShot_27 ?_
    refine P_X7_45 (pc := 28) dX7_noteShot_28 (by assumption) (fun h2 e2 f2 => ?_)
    refine R_vret (pc := 31) rfl dX7_noteShot_31 ?_
    exact ⟨rfl, by rw [e2, e1]; simp only [hput_hput, k_note, c_1, if_true, if_false]; rfl⟩
  · skip
    refine R_aload_n0 (pc := 4) dX7_noteShot_4 ?_
    refine R_iload_n2 (pc := 5) dX7_noteShot_5 ?_
    refine R_iconst (pc := 6) (v := 2) dX7_noteShot_6 (by decide) ?_
    refine R_iadd (pc := 7) dX7_noteShot_7 ?_
    refine P_X7_39 (pc := 8) dX7_noteShot_8 (by assumption) (fun h3 e3 f3 => ?_)
    refine R_goto (pc := 11) 21 dX7_noteShot_11 (by decide) ?_
    refine R_aload_n0 (pc := 21) dX7_noteShot_21 ?_
    refine R_dup (pc := 22) dX7_noteShot_22 rfl ?_
    refine G_X7_45 (pc := 23) dX7_noteShot_23 (by assumption) ?_
    refine R_iconst (pc := 26) (v := 2) dX7_noteShot_26 (by decide) ?_
    refine R_ior (pc := 27) dX7_noteShot_27 ?_
    refine P_X7_45 (pc := 28) dX7_noteShot_28 (by assumption) (fun h4 e4 f4 => ?_)
    refine R_vret (pc := 31) rfl dX7_noteShot_31 ?_
    exact ⟨rfl, by rw [e4, e3]; simp only [hput_hput, k_note, c_1, if_true, if_false]; rfl⟩

set_option maxHeartbeats 4000000 in
set_option maxRecDepth 100000 in
theorem c_X7_reloadingSides {a : Nat} {A : Nat → Nat} {Fv : Nat → Int32} {x : Int32} (ha : h.2 a = some (.inr (5, ob5 A Fv))) : Spec l D cA N0 m_X7_reloadingSides 0 0 0 [.ref a, .int x] h (fun r h' => r = some (.int (bI (x < Fv 9) + (if x < Fv 10 then 2 else 0))) ∧ h' = h) := by
  refine Spec.of (L := [some (.ref a), some (.int x)]) (by decide) rfl (Nat.le_of_ble_eq_true rfl) ?_
  refine R_iload_n1 (pc := 0) dX7_reloadingSides_0 ?_
  refine R_aload_n0 (pc := 1) dX7_reloadingSides_1 ?_
  refine G_X7_39 (pc := 2) dX7_reloadingSides_2 (by assumption) ?_
  refine R_icmp_ge (pc := 5) 12 dX7_reloadingSides_5 (by decide) (fun c_5 => ?_) (fun c_5 => ?_)
  · skip
    have d_5 := Int32.not_lt.mpr c_5
    refine R_iconst (pc := 12) (v := 0) dX7_reloadingSides_12 (by decide) ?_
    refine R_iload_n1 (pc := 13) dX7_reloadingSides_13 ?_
    refine R_aload_n0 (pc := 14) dX7_reloadingSides_14 ?_
    refine G_X7_42 (pc := 15) dX7_reloadingSides_15 (by assumption) ?_
    refine R_icmp_ge (pc := 18) 25 dX7_reloadingSides_18 (by decide) (fun c_18 => ?_) (fun c_18 => ?_)
    · skip
      have d_18 := Int32.not_lt.mpr c_18
      refine R_iconst (pc := 25) (v := 0) dX7_reloadingSides_25 (by decide) ?_
      refine R_iadd (pc := 26) dX7_reloadingSides_26 ?_
      refine R_iret (pc := 27) rfl rfl dX7_reloadingSides_27 ?_
      exact ⟨by simp [bI, c_5, d_5, c_18, d_18], rfl⟩
    · skip
      have d_18 := Int32.not_le.mp c_18
      refine R_iconst (pc := 21) (v := 2) dX7_reloadingSides_21 (by decide) ?_
      refine R_goto (pc := 22) 26 dX7_reloadingSides_22 (by decide) ?_
      refine R_iadd (pc := 26) dX7_reloadingSides_26 ?_
      refine R_iret (pc := 27) rfl rfl dX7_reloadingSides_27 ?_
      exact ⟨by simp [bI, c_5, d_5, c_18, d_18], rfl⟩
  · skip
    have d_5 := Int32.not_le.mp c_5
    refine R_iconst (pc := 8) (v := 1) dX7_reloadingSides_8 (by decide) ?_
    refine R_goto (pc := 9) 13 dX7_reloadingSides_9 (by decide) ?_
    refine R_iload_n1 (pc := 13) dX7_reloadingSides_13 ?_
    refine R_aload_n0 (pc := 14) dX7_reloadingSides_14 ?_
    refine G_X7_42 (pc := 15) dX7_reloadingSides_15 (by assumption) ?_
    refine R_icmp_ge (pc := 18) 25 dX7_reloadingSides_18 (by decide) (fun c_18 => ?_) (fun c_18 => ?_)
    · skip
      have d_18 := Int32.not_lt.mpr c_18
      refine R_iconst (pc := 25) (v := 0) dX7_reloadingSides_25 (by decide) ?_
      refine R_iadd (pc := 26) dX7_reloadingSides_26 ?_
      refine R_iret (pc := 27) rfl rfl dX7_reloadingSides_27 ?_
      exact ⟨by simp [bI, c_5, d_5, c_18, d_18], rfl⟩
    · skip
      have d_18 := Int32.not_le.mp c_18
      refine R_iconst (pc := 21) (v := 2) dX7_reloadingSides_21 (by decide) ?_
      refine R_goto (pc := 22) 26 dX7_reloadingSides_22 (by decide) ?_
      refine R_iadd (pc := 26) dX7_reloadingSides_26 ?_
      refine R_iret (pc := 27) rfl rfl dX7_reloadingSides_27 ?_
      exact ⟨by simp [bI, c_5, d_5, c_18, d_18], rfl⟩

set_option maxHeartbeats 4000000 in
set_option maxRecDepth 100000 in
theorem c_X7_isReloading {a : Nat} {A : Nat → Nat} {Fv : Nat → Int32} {x y : Int32} (ha : h.2 a = some (.inr (5, ob5 A Fv))) : Spec l D cA N0 m_X7_isReloading 0 0 0 [.ref a, .int x, .int y] h (fun r h' => r = some (.int (bI (y < if x = 0 then Fv 9 else Fv 10))) ∧ h' = h) := by
  refine Spec.of (L := [some (.ref a), some (.int x), some (.int y)]) (by decide) rfl (Nat.le_of_ble_eq_true rfl) ?_
  refine R_iload_n2 (pc := 0) dX7_isReloading_0 ?_
  refine R_iload_n1 (pc := 1) dX7_isReloading_1 ?_
  refine R_if_ne (pc := 2) 12 dX7_isReloading_2 (by decide) (fun c_2 => ?_) (fun c_2 => ?_)
  · skip
    refine R_aload_n0 (pc := 12) dX7_isReloading_12 ?_
    refine G_X7_42 (pc := 13) dX7_isReloading_13 (by assumption) ?_
    refine R_icmp_ge (pc := 16) 23 dX7_isReloading_16 (by decide) (fun c_16 => ?_) (fun c_16 => ?_)
    · skip
      have d_16 := Int32.not_lt.mpr c_16
      refine R_iconst (pc := 23) (v := 0) dX7_isReloading_23 (by decide) ?_
      refine R_iret (pc := 24) rfl rfl dX7_isReloading_24 ?_
      exact ⟨by simp [bI, c_2, c_16, d_16], rfl⟩
    · skip
      have d_16 := Int32.not_le.mp c_16
      refine R_iconst (pc := 19) (v := 1) dX7_isReloading_19 (by decide) ?_
      refine R_goto (pc := 20) 24 dX7_isReloading_20 (by decide) ?_
      refine R_iret (pc := 24) rfl rfl dX7_isReloading_24 ?_
      exact ⟨by simp [bI, c_2, c_16, d_16], rfl⟩
  · skip
    refine R_aload_n0 (pc := 5) dX7_isReloading_5 ?_
    refine G_X7_39 (pc := 6) dX7_isReloading_6 (by assumption) ?_
    refine R_goto (pc := 9) 16 dX7_isReloading_9 (by decide) ?_
    refine R_icmp_ge (pc := 16) 23 dX7_isReloading_16 (by decide) (fun c_16 => ?_) (fun c_16 => ?_)
    · skip
      have d_16 := Int32.not_lt.mpr c_16
      refine R_iconst (pc := 23) (v := 0) dX7_isReloading_23 (by decide) ?_
      refine R_iret (pc := 24) rfl rfl dX7_isReloading_24 ?_
      exact ⟨by simp [bI, c_2, c_16, d_16], rfl⟩
    · skip
      have d_16 := Int32.not_le.mp c_16
      refine R_iconst (pc := 19) (v := 1) dX7_isReloading_19 (by decide) ?_
      refine R_goto (pc := 20) 24 dX7_isReloading_20 (by decide) ?_
      refine R_iret (pc := 24) rfl rfl dX7_isReloading_24 ?_
      exact ⟨by simp [bI, c_2, c_16, d_16], rfl⟩

def k_hold (x w : Int32) : Bool := decide ((0 ≤ w ∧ w < 6) ∧ x >>> (w &&& 31) &&& 1 = 1)
set_option maxHeartbeats 4000000 in
set_option maxRecDepth 100000 in
theorem c_X0_holds {a : Nat} {A : Nat → Nat} {Fv : Nat → Int32} {x : Int32} (ha : h.2 a = some (.inr (0, ob0 A Fv))) : Spec l D cA N0 m_X0_holds 1 0 0 [.ref a, .int x] h (fun r h' => r = some (.int (bI (k_hold (Fv 0) x = true))) ∧ h' = h) := by
  refine Spec.of (L := [some (.ref a), some (.int x)]) (by decide) rfl (Nat.le_of_ble_eq_true rfl) ?_
  refine R_iload_n1 (pc := 0) dX0_holds_0 ?_
  refine R_callS1 (pc := 1) cal_X0_isCard kw706 kw684 dX0_holds_1 (c_X0_isCard) (by decide) (Nat.le_of_ble_eq_true rfl) ?_
  rintro _ _ ⟨rfl, rfl⟩
  refine R_ifb_eq (pc := 4) 23 dX0_holds_4 (by decide) (fun c_4 => ?_) (fun c_4 => ?_)
  · skip
    refine R_iconst (pc := 23) (v := 0) dX0_holds_23 (by decide) ?_
    refine R_iret (pc := 24) rfl rfl dX0_holds_24 ?_
    exact ⟨by rw [bI_f (fun q => by have q := of_decide_eq_true q; exact c_4 q.1)], rfl⟩
  · skip
    refine R_aload_n0 (pc := 7) dX0_holds_7 ?_
    refine G_X0_11 (pc := 8) dX0_holds_8 (by assumption) ?_
    refine R_iload_n1 (pc := 11) dX0_holds_11 ?_
    refine R_ishr (pc := 12) dX0_holds_12 ?_
    refine R_iconst (pc := 13) (v := 1) dX0_holds_13 (by decide) ?_
    refine R_iand (pc := 14) dX0_holds_14 ?_
    refine R_iconst (pc := 15) (v := 1) dX0_holds_15 (by decide) ?_
    refine R_icmp_ne (pc := 16) 23 dX0_holds_16 (by decide) (fun c_16 => ?_) (fun c_16 => ?_)
    · skip
      refine R_iconst (pc := 23) (v := 0) dX0_holds_23 (by decide) ?_
      refine R_iret (pc := 24) rfl rfl dX0_holds_24 ?_
      exact ⟨by rw [bI_f (fun q => by have q := of_decide_eq_true q; exact c_16 q.2)], rfl⟩
    · skip
      refine R_iconst (pc := 19) (v := 1) dX0_holds_19 (by decide) ?_
      refine R_goto (pc := 20) 24 dX0_holds_20 (by decide) ?_
      refine R_iret (pc := 24) rfl rfl dX0_holds_24 ?_
      exact ⟨by rw [bI_t (show k_hold _ _ = true from decide_eq_true ⟨c_4, c_16⟩)], rfl⟩

end LV4
