/-! STATES of the class: a game and two slots; copies -/
theorem R_heap {l : Launch} {D : va_G} {cA : Nat → ClassId} {N0 : Nat} {own : String} {cc : ByteArray} {nL : Nat} {ret : Option FieldType} {nm : String} {R : Room} {X : State → Prop} {F : List Frame → Array Value → State → State → Prop} {h h2 : AH} {k n pc : Nat} {L : List (Option Value)} {st : List Value} (hr : ∀ H : Heap, Rh D cA N0 h H → Rh D cA N0 h2 H) (r : Run l D cA N0 own cc nL ret nm R X F h2 k n pc L st) : Run l D cA N0 own cc nL ret nm R X F h k n pc L st :=
  fun p e s m args below meth c H locs ls Cc hR hS hL => r p e s m args below meth c H locs ls Cc (hr H hR) hS hL
theorem arrV_ext {c : ClassId} {N : Nat} {f f' : Nat → Value} (e : ∀ j, j < N → f j = f' j) : arrV c N f = arrV c N f' := by
  simp only [arrV]
  congr 2
  funext j
  exact e j.1 j.2
theorem Rh.norm {D : va_G} {cA : Nat → ClassId} {N0 : Nat} {h : AH} {H : Heap} {a : Nat} {e1 e2 : AE} (hE : ∀ H : Heap, va_at D vwCl (a, toE cA e1) H → va_at D vwCl (a, toE cA e2) H) (hR : Rh D cA N0 (hput h a e1) H) : Rh D cA N0 (hput h a e2) H := by
  refine ⟨hR.1, fun b e hb => ?_⟩
  by_cases hab : b = a
  · subst hab
    rw [hput_at] at hb
    cases hb
    have q := hR.2 b e1 (hput_at _ _ _)
    exact ⟨q.1, hE H q.2⟩
  · rw [hput_ne _ _ hab] at hb
    exact hR.2 b e (by rw [hput_ne _ _ hab]; exact hb)
theorem at_i {D : va_G} {cA : Nat → ClassId} {a t N : Nat} {f f' : Nat → Int32} (e : ∀ j, j < N → f j = f' j) (H : Heap) (q : va_at D vwCl (a, toE cA (.inl (t, N, .inl f))) H) : va_at D vwCl (a, toE cA (.inl (t, N, .inl f'))) H := by
  have q : H[a]? = some (vp_cell (cA t) (N, .inl f)) := q
  show H[a]? = some (vp_cell (cA t) (N, .inl f'))
  rw [q, vp_cell_i, vp_cell_i, arrV_ext (fun j hj => by rw [e j hj])]
theorem at_q {D : va_G} {cA : Nat → ClassId} {a t N : Nat} {f f' : Nat → Option Nat} (e : ∀ j, j < N → f j = f' j) (H : Heap) (q : va_at D vwCl (a, toE cA (.inl (t, N, .inr (.inr (.inr (.inr f)))))) H) : va_at D vwCl (a, toE cA (.inl (t, N, .inr (.inr (.inr (.inr f')))))) H := by
  have q : H[a]? = some (vp_cell (cA t) (N, .inr (.inr (.inr (.inr f))))) := q
  show H[a]? = some (vp_cell (cA t) (N, .inr (.inr (.inr (.inr f')))))
  rw [q, vp_cell_q, vp_cell_q, arrV_ext (fun j hj => by rw [e j hj])]
section CP
variable {l : Launch} {D : va_G} {cA : Nat → ClassId} {N0 : Nat} {own : String} {cc : ByteArray} {nL : Nat} {ret : Option FieldType} {nm : String} {R : Room} {X : State → Prop} {F : List Frame → Array Value → State → State → Prop} {h : AH} {k n pc : Nat} {L : List (Option Value)} {st : List Value}
/-- the islands of a game are copied whole -/
theorem R_copy81 {a0 a1 idx : Nat} {f g : Nat → Int32} (hd : decode cc pc = .ok (.invokestatic idx, 3)) (hw1 : Cond.methodLink own idx arraycopyName ∈ WSa) (hw2 : Cond.native arraycopyName ∈ WSa) (hw3 : Cond.static arraycopyName ∈ WSa) (hw4 : Cond.initialized "java/lang/System" ∈ WSa) (h0 : h.2 a0 = some (.inl (0, 81, .inl f))) (h1 : h.2 a1 = some (.inl (0, 81, .inl g))) (hne : a0 ≠ a1) (hf : 1 ≤ R.frames) (hlo : (st.map fun v => v.category).sum + (nativeFrameWords "java/lang/System" "arraycopy" 5 + 11) ≤ R.locals)
    (kk : ∀ h1 : AH, h1 = hput h a1 (.inl (0, 81, .inl f)) → Run l D cA N0 own cc nL ret nm R X F h1 k n (pc + 3) L st) : Run l D cA N0 own cc nL ret nm R X F h k n pc L (.int 81 :: .int 0 :: .ref a1 :: .int 0 :: .ref a0 :: st) := by
  refine R_copy (z := 81) (dp := 0) (sp := 0) hd hw1 hw2 hw3 hw4 h0 h1 hne (by decide) (by decide) (by decide) (by decide) (by decide) hf hlo ?_
  refine R_heap (fun H hR => Rh.norm (e2 := .inl (0, 81, .inl f)) (at_i (fun j hj => ?_)) hR) (kk _ rfl)
  show (if (0 : Int32).toNatClampNeg ≤ j ∧ j < (0 : Int32).toNatClampNeg + (81 : Int32).toNatClampNeg then f ((0 : Int32).toNatClampNeg + (j - (0 : Int32).toNatClampNeg)) else g j) = f j
  rw [show (0 : Int32).toNatClampNeg = 0 from rfl, show (81 : Int32).toNatClampNeg = 81 from rfl, if_pos ⟨Nat.zero_le _, by omega⟩, Nat.sub_zero, Nat.zero_add]
end CP
section GO
variable {h h1 : AH} {g g2 : Nat} {G G2 : Gm}
theorem gAtO (q : h1 = gput h g G) (hO : GmAt h g2 G2) (hd : g2 + 13 ≤ g ∨ g + 13 ≤ g2) : GmAt h1 g2 G2 := fun o ho => by
  rw [q, gput_out h g G (by omega)]
  exact hO o ho
theorem gput_ext (e : ∀ o, o < 13 → gmAt g G o = gmAt g G2 o) : gput h g G = gput h g G2 := by
  simp only [gput]
  congr 1
  funext q
  by_cases hq : g ≤ q ∧ q < g + 13
  · rw [if_pos hq, if_pos hq, e _ (by omega)]
  · rw [if_neg hq, if_neg hq]
theorem gmAt_ext (e1 : ∀ j, j < 12 → G.1 j = G2.1 j) (e2 : G.2.1 = G2.2.1) (e3 : ∀ i, i < 8 → ∀ j, j < 12 → shF G i j = shF G2 i j) : ∀ o, o < 13 → gmAt g G o = gmAt g G2 o := by
  intro o ho
  by_cases h5 : o < 5
  · rcases (by omega : o = 0 ∨ o = 1 ∨ o = 2 ∨ o = 3 ∨ o = 4) with e | e | e | e | e <;> subst e
    · exact congrArg (fun z => some (Sum.inr (1, z)) |>.getD (.inr (1, z))) (ob1_ext (fun j hj => e1 j (by omega)))
    · exact congrArg (fun z => (Sum.inr (0, z) : AE)) (ob0_ext (fun j hj => e1 (6 + 3 * 0 + j) (by omega)))
    · exact congrArg (fun z => (Sum.inr (0, z) : AE)) (ob0_ext (fun j hj => e1 (6 + 3 * 1 + j) (by omega)))
    · exact congrArg (fun z => (Sum.inl (0, 81, Sum.inl z) : AE)) e2
    · rfl
  · rw [gmAt_sh (by omega), gmAt_sh (by omega)]
    exact congrArg (fun z => (Sum.inr (5, z) : AE)) (ob5_ext (fun j hj => e3 _ (by omega) j hj))
end GO
def k_cp0 (G E : Gm) : Gm := sI (sC (sC (sG (sG (sG (sG (sG (sG G 0 (E.1 0)) 1 (E.1 1)) 2 (E.1 2)) 3 (E.1 3)) 4 (E.1 4)) 5 (E.1 5)) 0 (cF E 0)) 1 (cF E 1)) E.2.1
def k_cps (E : Gm) (G : Gm) (i : Nat) : Gm := sS G i (shF E i)
theorem k_cp (g : Nat) (h : AH) (G E : Gm) : gput h g (kg (k_cps E) (k_cp0 G E) 0 8) = gput h g E := by
  refine gput_ext (gmAt_ext (fun j hj => ?_) rfl (fun i hi j hj => ?_))
  · rcases (by omega : j = 0 ∨ j = 1 ∨ j = 2 ∨ j = 3 ∨ j = 4 ∨ j = 5 ∨ j = 6 ∨ j = 7 ∨ j = 8 ∨ j = 9 ∨ j = 10 ∨ j = 11) with e | e | e | e | e | e | e | e | e | e | e | e <;> subst e <;> rfl
  · rcases (by omega : i = 0 ∨ i = 1 ∨ i = 2 ∨ i = 3 ∨ i = 4 ∨ i = 5 ∨ i = 6 ∨ i = 7) with e | e | e | e | e | e | e | e <;> subst e <;> (by_cases hj0 : j = 0 <;> simp [kg, k_cps, sS, shF, hj0])
section LV10
variable {l : Launch} {D : va_G} {cA : Nat → ClassId} {N0 : Nat} {h : AH} {g g2 : Nat} {G E : Gm}
set_option maxHeartbeats 4000000 in
set_option maxRecDepth 100000 in
theorem L_X1_copyFrom (hO : GmAt h g2 E) (hd : g2 + 13 ≤ g ∨ g + 13 ≤ g2) : ∀ (n i : Nat), i + n = 8 → True → ∀ (G1 : Gm) (h1 : AH), h1 = gput h g G1 → RunM l D cA N0 m_X1_copyFrom 1 0 0 (fun r h' => r = none ∧ h' = gput h g (kg (k_cps E) G1 i n)) h1 0 0 87 [some (.ref g), some (.ref g2), some (.int (nI i))] [] := by
  intro n
  induction n with
  | zero =>
    intro i hin hinv G1 h1 q1
    have hie : i = 8 := by omega
    subst hie
    have hG1 := gAt q1
    have hO1 := gAtO q1 hO hd
    have go := hG1.o0
    have gs := hG1.sa
    have gOo := hO1.o0
    have gOs := hO1.sa
    refine R_iload_n2 (pc := 87) dX1_copyFrom_87 ?_
    refine R_bipush (pc := 88) (v := 8) dX1_copyFrom_88 (by decide) ?_
    refine R_icmp_ge (pc := 90) 114 dX1_copyFrom_90 (by decide) (fun c_90 => ?_) (fun c_90 => absurd (by decide) c_90)
    refine R_vret (pc := 114) rfl dX1_copyFrom_114 ?_
    exact ⟨rfl, q1⟩
  | succ n ih =>
    intro i hin hinv G1 h1 q1
    have hlt : i < 8 := by omega
    have hG1 := gAt q1
    have hO1 := gAtO q1 hO hd
    have go := hG1.o0
    have gs := hG1.sa
    have gOo := hO1.o0
    have gOs := hO1.sa
    refine R_iload_n2 (pc := 87) dX1_copyFrom_87 ?_
    refine R_bipush (pc := 88) (v := 8) dX1_copyFrom_88 (by decide) ?_
    refine R_icmp_ge (pc := 90) 114 dX1_copyFrom_90 (by decide) (fun c_90 => absurd c_90 (nI_ge hlt (by decide))) (fun c_90 => ?_)
    refine R_aload_n0 (pc := 93) dX1_copyFrom_93 ?_
    refine G_X1_33 (pc := 94) dX1_copyFrom_94 (by assumption) ?_
    refine R_iload_n2 (pc := 97) dX1_copyFrom_97 ?_
    refine R_ship (pc := 98) dX1_copyFrom_98 (by assumption) (by assumption) ?_
    have gsi := hG1.sh hlt
    refine R_aload_n1 (pc := 99) dX1_copyFrom_99 ?_
    refine G_X1_33 (pc := 100) dX1_copyFrom_100 (by assumption) ?_
    refine R_iload_n2 (pc := 103) dX1_copyFrom_103 ?_
    refine R_ship (pc := 104) dX1_copyFrom_104 (by assumption) (by assumption) ?_
    have gsj := hO1.sh hlt
    refine R_callV1 (pc := 105) (T := TX7) cal_X7_copyFrom kw273 kw274 kw275 dX1_copyFrom_105 (c_X7_copyFrom (Fv := shF G1 i) (E := shF E i) (by assumption) (by assumption) (by unfold sad; omega) rfl) (by decide) (Nat.le_of_ble_eq_true rfl) (ci := 5) rfl (by assumption) ?_
    rintro _ h1 ⟨rfl, e1⟩
    have q1 := gstep_s q1 e1 (by assumption) rfl
    have hG1 := gAt q1
    have go1 := hG1.o0
    have gca1 := hG1.c0
    have gcb1 := hG1.c1
    have gi1 := hG1.is
    have gs1 := hG1.sa
    have gsh1_0 := hG1.sh hlt
    refine R_iinc2 (pc := 108) dX1_copyFrom_108 rfl (by decide) ?_
    refine R_goto (pc := 111) 87 dX1_copyFrom_111 (by decide) ?_
    rw [nI_s]
    refine R_weak (by repeat (first | exact trivial | refine ⟨rfl, ?_⟩ | refine ⟨trivial, ?_⟩)) (R_post (fun a h1 q9 => ?_) (ih (i + 1) (by omega) trivial _ _ q1))
    rw [kg_s]
    exact q9

set_option maxHeartbeats 4000000 in
set_option maxRecDepth 100000 in
theorem c_X1_copyFrom (hG : GmAt h g G) (hO : GmAt h g2 E) (hd : g2 + 13 ≤ g ∨ g + 13 ≤ g2) (hz : E.1 1 = 0 ∨ E.1 1 = 1) : Spec l D cA N0 m_X1_copyFrom 1 0 0 [.ref g, .ref g2] h (fun r h' => r = none ∧ h' = gput h g (E)) := by
  refine Spec.of (L := [some (.ref g), some (.ref g2), none]) (by decide) rfl (Nat.le_of_ble_eq_true rfl) ?_
  have go := hG.o0
  have gc0 := hG.c0
  have gc1 := hG.c1
  have gi := hG.is
  have gs := hG.sa
  have q0 := (gput_self hG).symm
  have gOo0 := hO.o0
  have gOc0 := hO.c0
  have gOc1 := hO.c1
  have gOis := hO.is
  have gOsa := hO.sa
  refine R_aload_n0 (pc := 0) dX1_copyFrom_0 ?_
  refine R_aload_n1 (pc := 1) dX1_copyFrom_1 ?_
  refine G_X1_40 (pc := 2) dX1_copyFrom_2 (by assumption) ?_
  refine P_X1_40 (pc := 5) dX1_copyFrom_5 (by assumption) (fun h1 e1 f1 => ?_)
  have q1 := gstep_g q0 e1 (by decide)
  have hG1 := gAt q1
  have go1 := hG1.o0
  have gca1 := hG1.c0
  have gcb1 := hG1.c1
  have gi1 := hG1.is
  have gs1 := hG1.sa
  have hO1 := gAtO q1 hO hd
  have gOo01 := hO1.o0
  have gOc01 := hO1.c0
  have gOc11 := hO1.c1
  have gOis1 := hO1.is
  have gOsa1 := hO1.sa
  refine R_aload_n0 (pc := 8) dX1_copyFrom_8 ?_
  refine R_aload_n1 (pc := 9) dX1_copyFrom_9 ?_
  refine G_X1_43 (pc := 10) dX1_copyFrom_10 (by assumption) ?_
  refine P_X1_43 (pc := 13) dX1_copyFrom_13 hz (by assumption) (fun h2 e2 f2 => ?_)
  have q2 := gstep_g q1 e2 (by decide)
  have hG2 := gAt q2
  have go2 := hG2.o0
  have gca2 := hG2.c0
  have gcb2 := hG2.c1
  have gi2 := hG2.is
  have gs2 := hG2.sa
  have hO2 := gAtO q2 hO hd
  have gOo02 := hO2.o0
  have gOc02 := hO2.c0
  have gOc12 := hO2.c1
  have gOis2 := hO2.is
  have gOsa2 := hO2.sa
  refine R_aload_n0 (pc := 16) dX1_copyFrom_16 ?_
  refine R_aload_n1 (pc := 17) dX1_copyFrom_17 ?_
  refine G_X1_47 (pc := 18) dX1_copyFrom_18 (by assumption) ?_
  refine P_X1_47 (pc := 21) dX1_copyFrom_21 (by assumption) (fun h3 e3 f3 => ?_)
  have q3 := gstep_g q2 e3 (by decide)
  have hG3 := gAt q3
  have go3 := hG3.o0
  have gca3 := hG3.c0
  have gcb3 := hG3.c1
  have gi3 := hG3.is
  have gs3 := hG3.sa
  have hO3 := gAtO q3 hO hd
  have gOo03 := hO3.o0
  have gOc03 := hO3.c0
  have gOc13 := hO3.c1
  have gOis3 := hO3.is
  have gOsa3 := hO3.sa
  refine R_aload_n0 (pc := 24) dX1_copyFrom_24 ?_
  refine R_aload_n1 (pc := 25) dX1_copyFrom_25 ?_
  refine G_X1_9 (pc := 26) dX1_copyFrom_26 (by assumption) ?_
  refine P_X1_9 (pc := 29) dX1_copyFrom_29 (by assumption) (fun h4 e4 f4 => ?_)
  have q4 := gstep_g q3 e4 (by decide)
  have hG4 := gAt q4
  have go4 := hG4.o0
  have gca4 := hG4.c0
  have gcb4 := hG4.c1
  have gi4 := hG4.is
  have gs4 := hG4.sa
  have hO4 := gAtO q4 hO hd
  have gOo04 := hO4.o0
  have gOc04 := hO4.c0
  have gOc14 := hO4.c1
  have gOis4 := hO4.is
  have gOsa4 := hO4.sa
  refine R_aload_n0 (pc := 32) dX1_copyFrom_32 ?_
  refine R_aload_n1 (pc := 33) dX1_copyFrom_33 ?_
  refine G_X1_50 (pc := 34) dX1_copyFrom_34 (by assumption) ?_
  refine P_X1_50 (pc := 37) dX1_copyFrom_37 (by assumption) (fun h5 e5 f5 => ?_)
  have q5 := gstep_g q4 e5 (by decide)
  have hG5 := gAt q5
  have go5 := hG5.o0
  have gca5 := hG5.c0
  have gcb5 := hG5.c1
  have gi5 := hG5.is
  have gs5 := hG5.sa
  have hO5 := gAtO q5 hO hd
  have gOo05 := hO5.o0
  have gOc05 := hO5.c0
  have gOc15 := hO5.c1
  have gOis5 := hO5.is
  have gOsa5 := hO5.sa
  refine R_aload_n0 (pc := 40) dX1_copyFrom_40 ?_
  refine R_aload_n1 (pc := 41) dX1_copyFrom_41 ?_
  refine G_X1_53 (pc := 42) dX1_copyFrom_42 (by assumption) ?_
  refine P_X1_53 (pc := 45) dX1_copyFrom_45 (by assumption) (fun h6 e6 f6 => ?_)
  have q6 := gstep_g q5 e6 (by decide)
  have hG6 := gAt q6
  have go6 := hG6.o0
  have gca6 := hG6.c0
  have gcb6 := hG6.c1
  have gi6 := hG6.is
  have gs6 := hG6.sa
  have hO6 := gAtO q6 hO hd
  have gOo06 := hO6.o0
  have gOc06 := hO6.c0
  have gOc16 := hO6.c1
  have gOis6 := hO6.is
  have gOsa6 := hO6.sa
  refine R_aload_n0 (pc := 48) dX1_copyFrom_48 ?_
  refine G_X1_18 (pc := 49) dX1_copyFrom_49 (by assumption) ?_
  refine R_aload_n1 (pc := 52) dX1_copyFrom_52 ?_
  refine G_X1_18 (pc := 53) dX1_copyFrom_53 (by assumption) ?_
  refine R_callV1 (pc := 56) (T := TX0) cal_X0_copyFrom kw266 kw267 kw268 dX1_copyFrom_56 (c_X0_copyFrom (by assumption) (by assumption) (by unfold gA; omega)) (by decide) (Nat.le_of_ble_eq_true rfl) (ci := 0) rfl (by assumption) ?_
  rintro _ h7 ⟨rfl, e7⟩
  have q7 := gstep_c0 q6 e7
  have hG7 := gAt q7
  have go7 := hG7.o0
  have gca7 := hG7.c0
  have gcb7 := hG7.c1
  have gi7 := hG7.is
  have gs7 := hG7.sa
  have hO7 := gAtO q7 hO hd
  have gOo07 := hO7.o0
  have gOc07 := hO7.c0
  have gOc17 := hO7.c1
  have gOis7 := hO7.is
  have gOsa7 := hO7.sa
  refine R_aload_n0 (pc := 59) dX1_copyFrom_59 ?_
  refine G_X1_22 (pc := 60) dX1_copyFrom_60 (by assumption) ?_
  refine R_aload_n1 (pc := 63) dX1_copyFrom_63 ?_
  refine G_X1_22 (pc := 64) dX1_copyFrom_64 (by assumption) ?_
  refine R_callV1 (pc := 67) (T := TX0) cal_X0_copyFrom kw266 kw267 kw268 dX1_copyFrom_67 (c_X0_copyFrom (by assumption) (by assumption) (by unfold gA; omega)) (by decide) (Nat.le_of_ble_eq_true rfl) (ci := 0) rfl (by assumption) ?_
  rintro _ h8 ⟨rfl, e8⟩
  have q8 := gstep_c1 q7 e8
  have hG8 := gAt q8
  have go8 := hG8.o0
  have gca8 := hG8.c0
  have gcb8 := hG8.c1
  have gi8 := hG8.is
  have gs8 := hG8.sa
  have hO8 := gAtO q8 hO hd
  have gOo08 := hO8.o0
  have gOc08 := hO8.c0
  have gOc18 := hO8.c1
  have gOis8 := hO8.is
  have gOsa8 := hO8.sa
  refine R_aload_n1 (pc := 70) dX1_copyFrom_70 ?_
  refine G_X1_27 (pc := 71) dX1_copyFrom_71 (by assumption) ?_
  refine R_iconst (pc := 74) (v := 0) dX1_copyFrom_74 (by decide) ?_
  refine R_aload_n0 (pc := 75) dX1_copyFrom_75 ?_
  refine G_X1_27 (pc := 76) dX1_copyFrom_76 (by assumption) ?_
  refine R_iconst (pc := 79) (v := 0) dX1_copyFrom_79 (by decide) ?_
  refine R_bipush (pc := 80) (v := 81) dX1_copyFrom_80 (by decide) ?_
  refine R_copy81 (pc := 82) dX1_copyFrom_82 kw270 kw272 kw271 kw28 (by assumption) (by assumption) (by unfold gA; omega) (by decide) (by decide) (fun h90 e90 => ?_)
  have q90 := gstep_i q8 e90
  refine R_iconst (pc := 85) (v := 0) dX1_copyFrom_85 (by decide) ?_
  refine R_istore_n2 (pc := 86) dX1_copyFrom_86 rfl (by decide) ?_
  exact R_post (fun a h1 q9 => ⟨q9.1, q9.2.trans (k_cp g _ G E)⟩) (L_X1_copyFrom hO hd 8 0 rfl trivial _ _ q90)

end LV10
/-- a state: the game, the two slots, which of them are taken -/
abbrev Sm : Type := Gm × Gm × Gm × Int32
def sA (s : Nat) : Nat → Nat := fun k => s + 1 + 13 * k
def sob (s : Nat) (t : Int32) : AE := .inr (6, ob6 (sA s) (fun _ => t))
def StAt (h : AH) (s : Nat) (S : Sm) : Prop := h.2 s = some (sob s S.2.2.2) ∧ GmAt h (sA s 0) S.1 ∧ GmAt h (sA s 1) S.2.1 ∧ GmAt h (sA s 2) S.2.2.1
def sput (h : AH) (s : Nat) (S : Sm) : AH := hput (gput (gput (gput h (sA s 0) S.1) (sA s 1) S.2.1) (sA s 2) S.2.2.1) s (sob s S.2.2.2)
theorem StAt.o {h : AH} {s : Nat} {S : Sm} (q : StAt h s S) : h.2 s = some (.inr (6, ob6 (sA s) (fun _ => S.2.2.2))) := q.1
theorem sput_1 (h : AH) (s : Nat) (S : Sm) : (sput h s S).1 = h.1 := rfl
theorem sput_out (h : AH) (s : Nat) (S : Sm) {q : Nat} (hq : q < s ∨ s + 40 ≤ q) : (sput h s S).2 q = h.2 q := by
  unfold sput sA
  rw [hput_ne _ _ (by omega), gput_out _ _ _ (by omega), gput_out _ _ _ (by omega), gput_out _ _ _ (by omega)]
theorem gAt_keep {h h1 : AH} {g : Nat} {G : Gm} (hG : GmAt h g G) (e : ∀ q, g ≤ q → q < g + 13 → h1.2 q = h.2 q) : GmAt h1 g G := fun o ho => by
  rw [e _ (by omega) (by omega)]
  exact hG o ho
theorem StAt.keep {h h1 : AH} {s : Nat} {S : Sm} (q : StAt h s S) (e : ∀ x, s ≤ x → x < s + 40 → h1.2 x = h.2 x) : StAt h1 s S := by
  refine ⟨by rw [e s (by omega) (by omega)]; exact q.1, gAt_keep q.2.1 (fun x h1 h2 => ?_), gAt_keep q.2.2.1 (fun x h1 h2 => ?_), gAt_keep q.2.2.2 (fun x h1 h2 => ?_)⟩ <;> (unfold sA at h1 h2; exact e x (by omega) (by omega))
theorem sput_at (h : AH) (s : Nat) (S : Sm) : StAt (sput h s S) s S := by
  refine ⟨hput_at _ _ _, ?_, ?_, ?_⟩
  · refine gAt_keep (gput_at h (sA s 0) S.1) (fun q h1 h2 => ?_)
    unfold sput
    unfold sA at h1 h2 ⊢
    rw [hput_ne _ _ (by omega), gput_out _ _ _ (by omega), gput_out _ _ _ (by omega)]
  · refine gAt_keep (gput_at (gput h (sA s 0) S.1) (sA s 1) S.2.1) (fun q h1 h2 => ?_)
    unfold sput
    unfold sA at h1 h2 ⊢
    rw [hput_ne _ _ (by omega), gput_out _ _ _ (by omega)]
  · refine gAt_keep (gput_at (gput (gput h (sA s 0) S.1) (sA s 1) S.2.1) (sA s 2) S.2.2.1) (fun q h1 h2 => ?_)
    unfold sput
    unfold sA at h1 h2 ⊢
    rw [hput_ne _ _ (by omega)]
