/-! THE CLASS whole: carryOut -/
def zq : Nat → Int32 := fun _ => 0
theorem pargs_q (c : Nat → Int32) : ∀ (m i a : Nat) (q p : Nat → Int32), (pargs c m i a q).1 = (pargs c m i a p).1 ∧ (pargs c m i a q).2.1 = (pargs c m i a p).2.1 ∧ ((∀ j, j ≤ i → q j = p j) → (pargs c m i a q).1 = true → ∀ j, j ≤ i + m → (pargs c m i a q).2.2 j = (pargs c m i a p).2.2 j)
  | 0, i, a, q, p => ⟨rfl, rfl, fun h _ j hj => h j hj⟩
  | m + 1, i, a, q, p => by
    have up : ∀ v : Int32, (∀ j, j ≤ i → q j = p j) → ∀ j, j ≤ i + 1 → upd q (i + 1) v j = upd p (i + 1) v j := fun v h j hj => by
      by_cases e : j = i + 1
      · subst e; rw [pk_us, pk_us]
      · rw [pk_un e, pk_un e]; exact h j (by omega)
    rw [pargs_s, pargs_s]
    by_cases h0 : i = 0
    · rw [if_pos h0, if_pos h0]
      by_cases h1 : pdig (c a) = true
      · rw [if_pos h1, if_pos h1]
        have ih := pargs_q c m (i + 1) (pnum c (pmost (c a)) 0 a).2 (upd q (i + 1) (pnum c (pmost (c a)) 0 a).1) (upd p (i + 1) (pnum c (pmost (c a)) 0 a).1)
        exact ⟨ih.1, ih.2.1, fun h t j hj => ih.2.2 (up _ h) t j (by omega)⟩
      · rw [if_neg h1, if_neg h1]
        exact ⟨rfl, rfl, fun _ t => absurd t Bool.false_ne_true⟩
    · rw [if_neg h0, if_neg h0]
      by_cases h1 : c a = 44
      · rw [if_pos h1, if_pos h1]
        by_cases h2 : pdig (c (a + 1)) = true
        · rw [if_pos h2, if_pos h2]
          have ih := pargs_q c m (i + 1) (pnum c (pmost (c (a + 1))) 0 (a + 1)).2 (upd q (i + 1) (pnum c (pmost (c (a + 1))) 0 (a + 1)).1) (upd p (i + 1) (pnum c (pmost (c (a + 1))) 0 (a + 1)).1)
          exact ⟨ih.1, ih.2.1, fun h t j hj => ih.2.2 (up _ h) t j (by omega)⟩
        · rw [if_neg h2, if_neg h2]
          exact ⟨rfl, rfl, fun _ t => absurd t Bool.false_ne_true⟩
      · rw [if_neg h1, if_neg h1]
        exact ⟨rfl, rfl, fun _ t => absurd t Bool.false_ne_true⟩
theorem pord_q (c : Nat → Int32) (a : Nat) (q p : Nat → Int32) : (pord c a q).1 = (pord c a p).1 ∧ (pord c a q).2.1 = (pord c a p).2.1 ∧ ((pord c a q).1 = true → ∀ j, j ≤ pcnt (c a) → (pord c a q).2.2 j = (pord c a p).2.2 j) := by
  unfold pord
  by_cases h : pnof (c a) = -1
  · rw [if_pos h, if_pos h]
    exact ⟨rfl, rfl, fun t => absurd t Bool.false_ne_true⟩
  · rw [if_neg h, if_neg h]
    have ih := pargs_q c (pcnt (c a)) 0 (a + 1) (upd q 0 (c a)) (upd p 0 (c a))
    refine ⟨ih.1, ih.2.1, fun t j hj => ih.2.2 (fun j hj => ?_) t j (by omega)⟩
    have : j = 0 := by omega
    subst this
    rw [pk_us, pk_us]
theorem pargs_0 (c : Nat → Int32) : ∀ (m i a : Nat) (q : Nat → Int32), (pargs c m i a q).2.2 0 = q 0
  | 0, _, _, _ => rfl
  | m + 1, i, a, q => by
    rw [pargs_s]
    split
    · split
      · rw [pargs_0]; exact pk_un (by omega)
      · rfl
    · split
      · split
        · rw [pargs_0]; exact pk_un (by omega)
        · rfl
      · rfl
theorem pord_0 (c : Nat → Int32) (a : Nat) (q : Nat → Int32) : (pord c a q).2.2 0 = c a := by
  unfold pord
  split
  · exact (pk_us : upd q 0 (c a) 0 = c a)
  · rw [pargs_0]; exact pk_us
theorem k_obey_ext (G : Gm) (q p : Nat → Int32) (h : ∀ j, j ≤ pcnt (q 0) → q j = p j) : k_obey G q = k_obey G p := by
  have h0 := h 0 (Nat.zero_le _)
  unfold k_obey
  rw [← h0]
  have two : ∀ x : Int32, q 0 = x → pcnt x = 2 → q 1 = p 1 ∧ q 2 = p 2 := fun x e t => ⟨h 1 (by rw [e, t]; decide), h 2 (by rw [e, t]; decide)⟩
  split
  · rename_i e; obtain ⟨e1, e2⟩ := two _ e (by decide); rw [e1, e2]
  · split
    · rename_i e; obtain ⟨e1, e2⟩ := two _ e (by decide); rw [e1, e2]
    · split
      · rename_i e
        have t : pcnt (q 0) = 3 := by rw [e]; decide
        rw [h 1 (by omega), h 2 (by omega), h 3 (by omega)]
      · split
        · rename_i e; obtain ⟨e1, e2⟩ := two _ e (by decide); rw [e1, e2]
        · split
          · rename_i e
            have t : pcnt (q 0) = 1 := by rw [e]; decide
            rw [h 1 (by omega)]
          · split
            · rename_i e; obtain ⟨e1, e2⟩ := two _ e (by decide); rw [e1, e2]
            · rfl
theorem obey_q (G : Gm) (c : Nat → Int32) (a : Nat) (q : Nat → Int32) (h : (pord c a q).1 = true) : k_obey G (pord c a q).2.2 = k_obey G (pord c a zq).2.2 :=
  k_obey_ext G _ _ (fun j hj => (pord_q c a q zq).2.2 h j (by rw [pord_0] at hj; exact hj))
theorem pfault_q (c : Nat → Int32) (n : Nat) : ∀ (k a : Nat) (q p : Nat → Int32), (pfault c n k a q).1 = (pfault c n k a p).1
  | 0, _, _, _ => rfl
  | k + 1, a, q, p => by
    rw [pfault_s, pfault_s]
    have e := pord_q c a q p
    rw [e.1, e.2.1]
    split
    · split
      · rfl
      · split
        · exact pfault_q c n k _ _ _
        · rfl
    · rfl
/-- the orders are carried out one after another -/
def crun (c : Nat → Int32) : Nat → Nat → Gm → Nat → Nat × Gm
  | 0, _, G, d => (d, G)
  | k + 1, a, G, d => if (pord c a zq).1 = true then (if (k_obey G (pord c a zq).2.2).1 < 0 then (d, (k_obey G (pord c a zq).2.2).2) else crun c k (if c (pord c a zq).2.1 = 59 then (pord c a zq).2.1 + 1 else (pord c a zq).2.1) (k_obey G (pord c a zq).2.2).2 (d + 1)) else (d, G)
theorem crun_s (c : Nat → Int32) (k a : Nat) (G : Gm) (d : Nat) : crun c (k + 1) a G d = if (pord c a zq).1 = true then (if (k_obey G (pord c a zq).2.2).1 < 0 then (d, (k_obey G (pord c a zq).2.2).2) else crun c k (if c (pord c a zq).2.1 = 59 then (pord c a zq).2.1 + 1 else (pord c a zq).2.1) (k_obey G (pord c a zq).2.2).2 (d + 1)) else (d, G) := rfl
def cfault (C : Cm) : Int32 := (pfault (sg C.2.2.2.1 C.2.2.2.2) C.2.2.2.2 101 0 zq).1
def crunC (C : Cm) : Nat × Gm := crun (sg C.2.2.2.1 C.2.2.2.2) 100 0 C.1.1 0
def ccarry (C : Cm) : Int32 × Cm := if cfault C = -1 then (nI (crunC C).1, cact (C.1, C.2.1, C.2.2.1, C.2.2.2.1, 0) (nI (crunC C).1) ((crunC C).2, C.1.2)) else (-1000 - cfault C, C)
section LV19
variable {l : Launch} {D : va_G} {cA : Nat → ClassId} {N0 : Nat} {h : AH} {w : Nat} {C : Cm}
set_option maxHeartbeats 4000000 in
set_option maxRecDepth 100000 in
theorem L_carry_end {r A O : Nat → Nat} {X : Nat → Sm} {B : Bm} (hV : ∀ j, j < C.2.1 → X j = C.2.2.1 j) (hW : CW w C.2.1 r A (fun j => if j = 6 then C.1 else X j) C.2.2.2.2 O) {G1 : Gm} {d i a : Nat} {q : Nat → Int32} {ft : Int32} : ∀ h1 : AH, CR h1 w (G1, C.1.2) C.2.1 r A (fun j => if j = 6 then C.1 else X j) C.2.2.2.1 C.2.2.2.2 a q O B → Frm h h1 w 329 → RunM l D cA N0 m_X9_carryOut 6 0 0 (fun rr h' => rr = some (.int (nI ((d, G1)).1)) ∧ CAt h' w (cact (C.1, C.2.1, C.2.2.1, C.2.2.2.1, 0) (nI ((d, G1)).1) (((d, G1)).2, C.1.2)) ∧ Frm h h' w 329) h1 0 0 94 [some (.ref w), some (.int ft), some (.int (nI d)), some (.int (nI i))] [] := by
  intro h1 hR1 fr
  have c0 := hR1.1
  have c1 : h1.2 (CA w 0) = some (.inr (6, ob6 (sA (w + 1)) (fun _ => C.1.2.2.2))) := hR1.2.1.o
  have c2 : h1.2 (CA w 1) = some (.inr (2, ob2 A (fun _ => nI C.2.1))) := hR1.2.2.1
  have c3 : h1.2 (CA w 2) = some (.inr (3, ob3 O (orF C.2.2.2.2 a q))) := hR1.2.2.2.2.2.1
  have hG : GmAt h1 (sA (w + 1) 0) G1 := hR1.2.1.2.1
  have g0 := hG.o0
  refine R_aload_n0 (pc := 94) dX9_carryOut_94 ?_
  refine G_X9_26 (pc := 95) dX9_carryOut_95 (by assumption) ?_
  refine R_callV0 (pc := 98) (T := TX4) cal_X4_dropSigns kw613 kw614 kw615 dX9_carryOut_98 (c_X4_dropSigns hR1.2.2.2.2.2.1) (by decide) (Nat.le_of_ble_eq_true rfl) (ci := 3) rfl (by assumption) ?_
  rintro _ h2 ⟨rfl, e2⟩
  obtain ⟨hR2, fr2⟩ := hR1.ord hW e2
  have hW2 : CW w C.2.1 r A (fun j => if j = 6 then C.1 else X j) 0 O := ⟨hW.1, Nat.zero_le _, hW.2.2⟩
  have c0 := hR2.1
  refine R_pop (pc := 101) dX9_carryOut_101 rfl ?_
  refine R_aload_n0 (pc := 102) dX9_carryOut_102 ?_
  refine G_X9_19 (pc := 103) dX9_carryOut_103 (by assumption) ?_
  refine R_iload_n2 (pc := 106) dX9_carryOut_106 ?_
  refine R_callV1 (pc := 107) (T := TX3) cal_X3_settle kw338 kw339 kw340 dX9_carryOut_107 (c_X3_settle hR2.2.2.1 (hR2.hr hW2) hW2.h0 (hR2.hst hW2) (hR2.has hW2)) (by decide) (Nat.le_of_ble_eq_true rfl) (ci := 2) rfl hR2.2.2.1 ?_
  rintro _ h3 ⟨rfl, e3⟩
  refine R_iret (pc := 110) rfl rfl dX9_carryOut_110 ?_
  obtain ⟨g1, g2⟩ := act_fin hR2 hW2 hV e3 (fr.tr fr2)
  exact ⟨rfl, g1, g2⟩

set_option maxHeartbeats 4000000 in
set_option maxRecDepth 100000 in
theorem L_carry {r A O : Nat → Nat} {X : Nat → Sm} {B : Bm} (hV : ∀ j, j < C.2.1 → X j = C.2.2.1 j) (hW : CW w C.2.1 r A (fun j => if j = 6 then C.1 else X j) C.2.2.2.2 O) {I : Gm → Prop} (hIx : ∀ G, I G → ∀ i, i < 8 → 0 ≤ shF G i 2 ∧ shF G i 2 < 81) (hIo : ∀ G q, I G → I (k_obey G q).2) {ft : Int32} : ∀ (k i a d : Nat) (G1 : Gm) (q : Nat → Int32) (h1 : AH), i + k = 100 → a + 23 * k < 2 ^ 16 → I G1 → CR h1 w (G1, C.1.2) C.2.1 r A (fun j => if j = 6 then C.1 else X j) C.2.2.2.1 C.2.2.2.2 a q O B → Frm h h1 w 329 → RunM l D cA N0 m_X9_carryOut 6 0 0 (fun rr h' => rr = some (.int (nI (crun (sg C.2.2.2.1 C.2.2.2.2) k a G1 d).1)) ∧ CAt h' w (cact (C.1, C.2.1, C.2.2.1, C.2.2.2.1, 0) (nI (crun (sg C.2.2.2.1 C.2.2.2.2) k a G1 d).1) ((crun (sg C.2.2.2.1 C.2.2.2.2) k a G1 d).2, C.1.2)) ∧ Frm h h' w 329) h1 0 0 41 [some (.ref w), some (.int ft), some (.int (nI d)), some (.int (nI i))] [] := by
  intro k
  induction k with
  | zero =>
    intro i a d G1 q h1 hi hb hI hR1 fr
    have him : i = 100 := by omega
    refine R_iload_n3 (pc := 41) dX9_carryOut_41 ?_
    refine R_bipush (pc := 42) (v := 100) dX9_carryOut_42 (by decide) ?_
    refine R_icmp_ge (pc := 44) 94 dX9_carryOut_44 (by decide) (fun c_44 => ?_) (fun c_44 => absurd (by rw [him]; decide) c_44)
    exact L_carry_end hV hW h1 hR1 fr
  | succ k ih =>
    intro i a d G1 q h1 hi hb hI hR1 fr
    have c0 := hR1.1
    have c1 : h1.2 (CA w 0) = some (.inr (6, ob6 (sA (w + 1)) (fun _ => C.1.2.2.2))) := hR1.2.1.o
    have c2 : h1.2 (CA w 1) = some (.inr (2, ob2 A (fun _ => nI C.2.1))) := hR1.2.2.1
    have c3 : h1.2 (CA w 2) = some (.inr (3, ob3 O (orF C.2.2.2.2 a q))) := hR1.2.2.2.2.2.1
    have hG : GmAt h1 (sA (w + 1) 0) G1 := hR1.2.1.2.1
    have g0 := hG.o0
    refine R_iload_n3 (pc := 41) dX9_carryOut_41 ?_
    refine R_bipush (pc := 42) (v := 100) dX9_carryOut_42 (by decide) ?_
    refine R_icmp_ge (pc := 44) 94 dX9_carryOut_44 (by decide) (fun c_44 => absurd c_44 (nI_ge (show i < 100 by omega) (by decide))) (fun c_44 => ?_)
    refine R_aload_n0 (pc := 47) dX9_carryOut_47 ?_
    refine G_X9_26 (pc := 48) dX9_carryOut_48 (by assumption) ?_
    refine R_callV0 (pc := 51) (T := TX4) cal_X4_readOrder kw664 kw630 kw631 dX9_carryOut_51 (c_X4_readOrder hR1.2.2.2.2.2.1 (hR1.os hW) hW.2.1 hW.o0 (by omega)) (by decide) (Nat.le_of_ble_eq_true rfl) (ci := 3) rfl (by assumption) ?_
    rintro _ h2 ⟨rfl, e2⟩
    have hple := pord_le (sg C.2.2.2.1 C.2.2.2.2) a q
    obtain ⟨hR2, fr2⟩ := hR1.ord hW e2
    obtain ⟨pq1, pq2, pq3⟩ := pord_q (sg C.2.2.2.1 C.2.2.2.2) a q zq
    have c0 := hR2.1
    have c1 : h2.2 (CA w 0) = some (.inr (6, ob6 (sA (w + 1)) (fun _ => C.1.2.2.2))) := hR2.2.1.o
    have c2 : h2.2 (CA w 1) = some (.inr (2, ob2 A (fun _ => nI C.2.1))) := hR2.2.2.1
    have c3 : h2.2 (CA w 2) = some (.inr (3, ob3 O (orF C.2.2.2.2 (pord (sg C.2.2.2.1 C.2.2.2.2) a q).2.1 (pord (sg C.2.2.2.1 C.2.2.2.2) a q).2.2))) := hR2.2.2.2.2.2.1
    have hG : GmAt h2 (sA (w + 1) 0) G1 := hR2.2.1.2.1
    have g0 := hG.o0
    refine R_ifb_eq (pc := 54) 94 dX9_carryOut_54 (by decide) (fun c_54 => ?_) (fun c_54 => ?_)
    · skip
      have c_54z : ¬ (pord (sg C.2.2.2.1 C.2.2.2.2) a zq).1 = true := fun z => c_54 (by rw [pq1]; exact z)
      rw [crun_s, if_neg c_54z]
      exact L_carry_end hV hW h2 hR2 (fr.tr fr2)
    · skip
      refine R_aload_n0 (pc := 57) dX9_carryOut_57 ?_
      refine G_X9_26 (pc := 58) dX9_carryOut_58 (by assumption) ?_
      refine R_aload_n0 (pc := 61) dX9_carryOut_61 ?_
      refine G_X9_10 (pc := 62) dX9_carryOut_62 (by assumption) ?_
      refine G_X9_41 (pc := 65) dX9_carryOut_65 (by assumption) ?_
      refine R_callV1 (pc := 68) (T := TX4) cal_X4_obey kw665 kw666 kw667 dX9_carryOut_68 (c_X4_obey hR2.2.2.2.2.2.1 hG (hIx _ hI)) (by decide) (Nat.le_of_ble_eq_true rfl) (ci := 3) rfl (by assumption) ?_
      rintro _ h3 ⟨rfl, e3⟩
      obtain ⟨hs3, fr3⟩ := st_gput hR2.2.1 e3
      obtain ⟨hR3, fr3⟩ := hR2.state hW hs3 fr3
      have hob := obey_q G1 (sg C.2.2.2.1 C.2.2.2.2) a q c_54
      have c_54z : (pord (sg C.2.2.2.1 C.2.2.2.2) a zq).1 = true := by rw [← pq1]; exact c_54
      have c0 := hR3.1
      have c1 : h3.2 (CA w 0) = some (.inr (6, ob6 (sA (w + 1)) (fun _ => C.1.2.2.2))) := hR3.2.1.o
      have c2 : h3.2 (CA w 1) = some (.inr (2, ob2 A (fun _ => nI C.2.1))) := hR3.2.2.1
      have c3 : h3.2 (CA w 2) = some (.inr (3, ob3 O (orF C.2.2.2.2 (pord (sg C.2.2.2.1 C.2.2.2.2) a q).2.1 (pord (sg C.2.2.2.1 C.2.2.2.2) a q).2.2))) := hR3.2.2.2.2.2.1
      have hG : GmAt h3 (sA (w + 1) 0) (k_obey G1 (pord (sg C.2.2.2.1 C.2.2.2.2) a q).2.2).2 := hR3.2.1.2.1
      have g0 := hG.o0
      refine R_if_ge (pc := 71) 77 dX9_carryOut_71 (by decide) (fun c_71 => ?_) (fun c_71 => ?_)
      · skip
        have d_71 := Int32.not_lt.mpr c_71
        refine R_iinc2 (pc := 77) dX9_carryOut_77 rfl (by decide) ?_
        refine R_aload_n0 (pc := 80) dX9_carryOut_80 ?_
        refine G_X9_26 (pc := 81) dX9_carryOut_81 (by assumption) ?_
        refine R_callV0 (pc := 84) (T := TX4) cal_X4_readSeparator kw676 kw660 kw661 dX9_carryOut_84 (c_X4_readSeparator hR3.2.2.2.2.2.1 (hR3.os hW) hW.2.1 hW.o0 (by omega)) (by decide) (Nat.le_of_ble_eq_true rfl) (ci := 3) rfl (by assumption) ?_
        rintro _ h4 ⟨rfl, e4⟩
        obtain ⟨q4, hR4, fr4⟩ : ∃ q4, CR h4 w ((k_obey G1 (pord (sg C.2.2.2.1 C.2.2.2.2) a q).2.2).2, C.1.2) C.2.1 r A (fun j => if j = 6 then C.1 else X j) C.2.2.2.1 C.2.2.2.2 (if (sg C.2.2.2.1 C.2.2.2.2) (pord (sg C.2.2.2.1 C.2.2.2.2) a q).2.1 = 59 then (pord (sg C.2.2.2.1 C.2.2.2.2) a q).2.1 + 1 else (pord (sg C.2.2.2.1 C.2.2.2.2) a q).2.1) q4 O B ∧ Frm h3 h4 w 329 := by
          by_cases hs : (sg C.2.2.2.1 C.2.2.2.2) (pord (sg C.2.2.2.1 C.2.2.2.2) a q).2.1 = 59
          · rw [if_pos hs] at e4
            rw [if_pos hs]
            exact ⟨_, hR3.ord hW e4⟩
          · rw [if_neg hs] at e4
            rw [if_neg hs, e4]
            exact ⟨_, hR3, Frm.rf _ _ _⟩
        refine R_pop (pc := 87) dX9_carryOut_87 rfl ?_
        refine R_iinc3 (pc := 88) dX9_carryOut_88 rfl (by decide) ?_
        refine R_goto (pc := 91) 41 dX9_carryOut_91 (by decide) ?_
        rw [nI_s, nI_s]
        rw [crun_s, if_pos c_54z, if_neg (by rw [← hob]; exact Int32.not_lt.mpr c_71), ← hob, ← pq2]
        exact ih (i + 1) _ (d + 1) _ _ _ (by omega) (by split <;> omega) (hIo _ _ hI) hR4 (((fr.tr fr2).tr fr3).tr fr4)
      · skip
        have d_71 := Int32.not_le.mp c_71
        refine R_goto (pc := 74) 94 dX9_carryOut_74 (by decide) ?_
        rw [crun_s, if_pos c_54z, if_pos (by rw [← hob]; exact Int32.not_le.mp c_71), ← hob]
        exact L_carry_end hV hW h3 hR3 ((fr.tr fr2).tr fr3)

set_option maxHeartbeats 4000000 in
set_option maxRecDepth 100000 in
theorem c_X9_carryOut (hC : CAt h w C) (hz : sBz C.1) {I : Gm → Prop} (hIx : ∀ G, I G → ∀ i, i < 8 → 0 ≤ shF G i 2 ∧ shF G i 2 < 81) (hIo : ∀ G q, I G → I (k_obey G q).2) (hI : I C.1.1) : Spec l D cA N0 m_X9_carryOut 6 0 0 [.ref w] h (fun r h' => r = some (.int (ccarry C).1) ∧ CAt h' w (ccarry C).2 ∧ Frm h h' w 329) := by
  refine Spec.of (L := [some (.ref w), none, none, none]) (by decide) rfl (Nat.le_of_ble_eq_true rfl) ?_
  obtain ⟨r, A, X, a, q, O, B, hR, hW, hV⟩ := hC
  have hC : CAt h w C := ⟨r, A, X, a, q, O, B, hR, hW, hV⟩
  have c0 := hR.1
  have c1 : h.2 (CA w 0) = some (.inr (6, ob6 (sA (w + 1)) (fun _ => C.1.2.2.2))) := hR.2.1.o
  have c2 : h.2 (CA w 1) = some (.inr (2, ob2 A (fun _ => nI C.2.1))) := hR.2.2.1
  have c3 : h.2 (CA w 2) = some (.inr (3, ob3 O (orF C.2.2.2.2 a q))) := hR.2.2.2.2.2.1
  have c4 : h.2 (CA w 3) = some (.inr (4, ob4 (fun k => w + 325 + 1 + k) (fun _ => nI B.2.2.2))) := hR.2.2.2.2.2.2.2.1
  have hG : GmAt h (sA (w + 1) 0) C.1.1 := hR.2.1.2.1
  have g0 := hG.o0
  have hd0 : CA w 0 + 40 ≤ A 1 ∨ A 1 + 40 ≤ CA w 0 := Or.inl (by have := hW.a6; show w + 1 + 40 ≤ A 1; omega)
  refine R_aload_n0 (pc := 0) dX9_carryOut_0 ?_
  refine G_X9_26 (pc := 1) dX9_carryOut_1 (by assumption) ?_
  refine R_callV0 (pc := 4) (T := TX4) cal_X4_fault kw621 kw622 kw623 dX9_carryOut_4 (c_X4_fault hR.2.2.2.2.2.1 (hR.os hW) hW.2.1 hW.o0) (by decide) (Nat.le_of_ble_eq_true rfl) (ci := 3) rfl c3 ?_
  rintro _ h1 ⟨rfl, e1⟩
  obtain ⟨hR1, fr1⟩ := hR.ord hW e1
  have b0 := hR1.1
  have c2b : h1.2 (CA w 1) = some (.inr (2, ob2 A (fun _ => nI C.2.1))) := hR1.2.2.1
  rw [pfault_q _ _ _ _ q zq]
  rw [show (pfault (sg C.2.2.2.1 C.2.2.2.2) C.2.2.2.2 101 0 zq).1 = cfault C from rfl]
  refine R_istore_n1 (pc := 7) dX9_carryOut_7 rfl (by decide) ?_
  refine R_iload_n1 (pc := 8) dX9_carryOut_8 ?_
  refine R_iconst (pc := 9) (v := (-1)) dX9_carryOut_9 (by decide) ?_
  refine R_icmp_eq (pc := 10) 19 dX9_carryOut_10 (by decide) (fun c_10 => ?_) (fun c_10 => ?_)
  · skip
    refine R_aload_n0 (pc := 19) dX9_carryOut_19 ?_
    refine G_X9_19 (pc := 20) dX9_carryOut_20 (by assumption) ?_
    refine R_aload_n0 (pc := 23) dX9_carryOut_23 ?_
    refine G_X9_10 (pc := 24) dX9_carryOut_24 (by assumption) ?_
    refine R_callV1 (pc := 27) (T := TX3) cal_X3_keepAside kw296 kw297 kw298 dX9_carryOut_27 (c_X3_keepAside hR1.2.2.1 hR1.st6 hR1.2.1 hd0 hz) (by decide) (Nat.le_of_ble_eq_true rfl) (ci := 2) rfl c2b ?_
    rintro _ h2 ⟨rfl, e2⟩
    obtain ⟨hR2, hW2, fr2⟩ := hR1.aside hW hz e2
    have d0 := hR2.1
    have d3 : h2.2 (CA w 2) = some (.inr (3, ob3 O (orF C.2.2.2.2 _ _))) := hR2.2.2.2.2.2.1
    have d0 := hR2.1
    have d3 : h2.2 (CA w 2) = _ := hR2.2.2.2.2.2.1
    refine R_iconst (pc := 30) (v := 0) dX9_carryOut_30 (by decide) ?_
    refine R_istore_n2 (pc := 31) dX9_carryOut_31 rfl (by decide) ?_
    refine R_aload_n0 (pc := 32) dX9_carryOut_32 ?_
    refine G_X9_26 (pc := 33) dX9_carryOut_33 (by assumption) ?_
    refine R_callV0 (pc := 36) (T := TX4) cal_X4_rewind kw663 kw626 kw627 dX9_carryOut_36 (c_X4_rewind hR2.2.2.2.2.2.1) (by decide) (Nat.le_of_ble_eq_true rfl) (ci := 3) rfl (by assumption) ?_
    rintro _ h3 ⟨rfl, e3⟩
    obtain ⟨hR3, fr3⟩ := hR2.ord hW2 e3
    refine R_iconst (pc := 39) (v := 0) dX9_carryOut_39 (by decide) ?_
    refine R_istore_n3 (pc := 40) dX9_carryOut_40 rfl (by decide) ?_
    rw [ccarry, if_pos c_10]
    exact L_carry hV hW2 hIx hIo 100 0 0 0 _ _ h3 rfl (by decide) hI hR3 ((fr1.tr fr2).tr fr3)
  · skip
    refine R_sipush (pc := 13) (v := (-1000)) dX9_carryOut_13 (by decide) ?_
    refine R_iload_n1 (pc := 16) dX9_carryOut_16 ?_
    refine R_isub (pc := 17) dX9_carryOut_17 ?_
    refine R_iret (pc := 18) rfl rfl dX9_carryOut_18 ?_
    rw [ccarry, if_neg c_10]
    exact ⟨rfl, ⟨_, _, _, _, _, _, _, hR1, hW, hV⟩, fr1⟩

end LV19
