/-! ORDERS of the class, whole: readOrder, fault, addSign, obey -/
def pfault (c : Nat → Int32) (n : Nat) : Nat → Nat → (Nat → Int32) → Int32 × Nat × (Nat → Int32)
  | 0, a, q => (nI a, a, q)
  | k + 1, a, q => if (pord c a q).1 = true then (if n ≤ (pord c a q).2.1 then (-1, (pord c a q).2.1, (pord c a q).2.2) else if c (pord c a q).2.1 = 59 then pfault c n k ((pord c a q).2.1 + 1) (pord c a q).2.2 else (nI (pord c a q).2.1, (pord c a q).2.1, (pord c a q).2.2)) else (nI (pord c a q).2.1, (pord c a q).2.1, (pord c a q).2.2)
theorem pfault_s (c : Nat → Int32) (n k a : Nat) (q : Nat → Int32) : pfault c n (k + 1) a q = if (pord c a q).1 = true then (if n ≤ (pord c a q).2.1 then (-1, (pord c a q).2.1, (pord c a q).2.2) else if c (pord c a q).2.1 = 59 then pfault c n k ((pord c a q).2.1 + 1) (pord c a q).2.2 else (nI (pord c a q).2.1, (pord c a q).2.1, (pord c a q).2.2)) else (nI (pord c a q).2.1, (pord c a q).2.1, (pord c a q).2.2) := rfl
def k_obey (G : Gm) (q : Nat → Int32) : Int32 × Gm := if q 0 = 116 then k_tell G (q 1) (q 2) else if q 0 = 115 then k_sail G (q 1) (q 2) else if q 0 = 102 then k_fire G (q 1) (q 2) (q 3) else if q 0 = 103 then k_grap G (q 1) (q 2) else if q 0 = 120 then k_cut G (q 1) else if q 0 = 114 then k_mend G (q 1) (q 2) else k_end G
section LV14
variable {l : Launch} {D : va_G} {cA : Nat → ClassId} {N0 : Nat} {h : AH} {u : Nat} {A : Nat → Nat} {n a : Nat} {q : Nat → Int32} {f : Nat → Int32}
set_option maxHeartbeats 4000000 in
set_option maxRecDepth 100000 in
theorem c_X4_readOrder (ho : h.2 u = some (.inr (3, ob3 A (orF n a q)))) (hs : h.2 (A 0) = some (.inl (0, 100, .inl f))) (hn : n ≤ 100) (hne : u ≠ A 0) (ha : a < 2 ^ 17) : Spec l D cA N0 m_X4_readOrder 2 0 0 [.ref u] h (fun r h' => r = some (.int (bI ((pord (sg f n) a q).1 = true))) ∧ h' = oput h u A n (pord (sg f n) a q).2.1 (pord (sg f n) a q).2.2) := by
  refine Spec.of (L := [some (.ref u), none, none]) (by decide) rfl (Nat.le_of_ble_eq_true rfl) ?_
  refine R_aload_n0 (pc := 0) dX4_readOrder_0 ?_
  refine R_aload_n0 (pc := 1) dX4_readOrder_1 ?_
  refine R_aload_n0 (pc := 2) dX4_readOrder_2 ?_
  refine G_X4_19 (pc := 3) dX4_readOrder_3 (by assumption) ?_
  refine R_callV1 (pc := 6) (T := TX4) cal_X4_signAt kw633 kw635 kw13 dX4_readOrder_6 (c_X4_signAt (by assumption) (by assumption) (by assumption) (by assumption) (by omega)) (by decide) (Nat.le_of_ble_eq_true rfl) (ci := 3) rfl (by assumption) ?_
  rintro _ _ ⟨rfl, rfl⟩
  refine P_X4_43 (pc := 9) dX4_readOrder_9 (by assumption) (fun h1 e1 f1 => ?_)
  have q1 := oput_q (k := 0) (by decide) (oput_self ho).symm e1
  have ho1 : h1.2 u = some (.inr (3, ob3 A (orF n (a) (upd q 0 (sg f n a))))) := by rw [q1]; exact oput_o _ _ _ _ _ _
  have hs1 : h1.2 (A 0) = some (.inl (0, 100, .inl f)) := by rw [q1]; exact oput_s hs hne
  refine R_aload_n0 (pc := 12) dX4_readOrder_12 ?_
  refine G_X4_43 (pc := 13) dX4_readOrder_13 (by assumption) ?_
  refine R_callS1 (pc := 16) cal_X4_numbersOf kw637 kw638 dX4_readOrder_16 c_X4_numbersOf (by decide) (Nat.le_of_ble_eq_true rfl) ?_
  rintro _ _ ⟨rfl, rfl⟩
  refine R_istore_n1 (pc := 19) dX4_readOrder_19 rfl (by decide) ?_
  refine R_iload_n1 (pc := 20) dX4_readOrder_20 ?_
  refine R_iconst (pc := 21) (v := (-1)) dX4_readOrder_21 (by decide) ?_
  refine R_icmp_ne (pc := 22) 27 dX4_readOrder_22 (by decide) (fun c_22 => ?_) (fun c_22 => ?_)
  · skip
    refine R_aload_n0 (pc := 27) dX4_readOrder_27 ?_
    refine R_dup (pc := 28) dX4_readOrder_28 rfl ?_
    refine G_X4_19 (pc := 29) dX4_readOrder_29 (by assumption) ?_
    refine R_iconst (pc := 32) (v := 1) dX4_readOrder_32 (by decide) ?_
    refine R_iadd (pc := 33) dX4_readOrder_33 ?_
    refine P_X4_19 (pc := 34) dX4_readOrder_34 (by assumption) (fun h2 e2 f2 => ?_)
    have q2 := oput_at1 q1 e2
    have ho2 : h2.2 u = some (.inr (3, ob3 A (orF n (a + 1) (upd q 0 (sg f n a))))) := by rw [q2]; exact oput_o _ _ _ _ _ _
    have hs2 : h2.2 (A 0) = some (.inl (0, 100, .inl f)) := by rw [q2]; exact oput_s hs hne
    refine R_iconst (pc := 37) (v := 0) dX4_readOrder_37 (by decide) ?_
    refine R_istore_n2 (pc := 38) dX4_readOrder_38 rfl (by decide) ?_
    have c_22y : ¬ pnof (sg f n a) = -1 := c_22
    have hp := (pnof_n (sg f n a)).resolve_left c_22y
    rw [show pord (sg f n) a q = pargs (sg f n) (pcnt (sg f n a)) 0 (a + 1) (upd q 0 (sg f n a)) from if_neg c_22y]
    refine Run.cast (L := [some (.ref u), some (.int (nI (pcnt (sg f n a)))), some (.int (nI 0))]) (L_X4_readOrder hs hn hne hp.1 (pcnt (sg f n a)) 0 (a + 1) _ _ (Nat.zero_add _) (by omega) q2) rfl rfl rfl rfl ?_ rfl
    rw [← hp.2]
    rfl
  · skip
    have c_22x : pnof (sg f n a) = -1 := c_22
    refine R_iconst (pc := 25) (v := 0) dX4_readOrder_25 (by decide) ?_
    refine R_iret (pc := 26) rfl rfl dX4_readOrder_26 ?_
    exact ⟨by rw [bI_f (fun z => by rw [pord, if_pos c_22x] at z; cases z)], by rw [q1, pord, if_pos c_22x]⟩

set_option maxHeartbeats 4000000 in
set_option maxRecDepth 100000 in
theorem L_X4_fault (hs : h.2 (A 0) = some (.inl (0, 100, .inl f))) (hn : n ≤ 100) (hne : u ≠ A 0) : ∀ (k i : Nat) (a1 : Nat) (qq : Nat → Int32) (h1 : AH), i + k = 101 → a1 + 23 * k < 2 ^ 16 → h1 = oput h u A n a1 qq → RunM l D cA N0 m_X4_fault 3 0 0 (fun r h' => r = some (.int (pfault (sg f n) n k a1 qq).1) ∧ h' = oput h u A n (pfault (sg f n) n k a1 qq).2.1 (pfault (sg f n) n k a1 qq).2.2) h1 0 0 6 [some (.ref u), some (.int (nI i))] [] := by
  intro k
  induction k with
  | zero =>
    intro i a1 qq h1 hi hb q1
    have him : i = 101 := by omega
    have ho1 : h1.2 u = some (.inr (3, ob3 A (orF n (a1) (qq)))) := by rw [q1]; exact oput_o _ _ _ _ _ _
    have hs1 : h1.2 (A 0) = some (.inl (0, 100, .inl f)) := by rw [q1]; exact oput_s hs hne
    refine R_iload_n1 (pc := 6) dX4_fault_6 ?_
    refine R_bipush (pc := 7) (v := 100) dX4_fault_7 (by decide) ?_
    refine R_icmp_gt (pc := 9) 51 dX4_fault_9 (by decide) (fun c_9 => ?_) (fun c_9 => absurd (by rw [him]; decide) c_9)
    refine R_aload_n0 (pc := 51) dX4_fault_51 ?_
    refine G_X4_19 (pc := 52) dX4_fault_52 (by assumption) ?_
    refine R_iret (pc := 55) rfl rfl dX4_fault_55 ?_
    exact ⟨rfl, q1⟩
  | succ k ih =>
    intro i a1 qq h1 hi hb q1
    have ho1 : h1.2 u = some (.inr (3, ob3 A (orF n (a1) (qq)))) := by rw [q1]; exact oput_o _ _ _ _ _ _
    have hs1 : h1.2 (A 0) = some (.inl (0, 100, .inl f)) := by rw [q1]; exact oput_s hs hne
    refine R_iload_n1 (pc := 6) dX4_fault_6 ?_
    refine R_bipush (pc := 7) (v := 100) dX4_fault_7 (by decide) ?_
    refine R_icmp_gt (pc := 9) 51 dX4_fault_9 (by decide) (fun c_9 => absurd c_9 (nI_nlt (show i ≤ 100 by omega) (by decide))) (fun c_9 => ?_)
    refine R_aload_n0 (pc := 12) dX4_fault_12 ?_
    refine R_callV0 (pc := 13) (T := TX4) cal_X4_readOrder kw629 kw630 kw631 dX4_fault_13 (c_X4_readOrder (by assumption) (by assumption) (by assumption) (by assumption) (by omega)) (by decide) (Nat.le_of_ble_eq_true rfl) (ci := 3) rfl (by assumption) ?_
    rintro _ h13 ⟨rfl, e13⟩
    have hple := pord_le (sg f n) a1 qq
    have q13 : h13 = oput h u A n (pord (sg f n) a1 qq).2.1 (pord (sg f n) a1 qq).2.2 := by rw [e13, q1]; exact oput_oput _ _ _ _ _ _ _ _ _ _
    have ho13 : h13.2 u = some (.inr (3, ob3 A (orF n ((pord (sg f n) a1 qq).2.1) ((pord (sg f n) a1 qq).2.2)))) := by rw [q13]; exact oput_o _ _ _ _ _ _
    have hs13 : h13.2 (A 0) = some (.inl (0, 100, .inl f)) := by rw [q13]; exact oput_s hs hne
    refine R_ifb_ne (pc := 16) 24 dX4_fault_16 (by decide) (fun c_16 => ?_) (fun c_16 => ?_)
    · skip
      refine R_aload_n0 (pc := 24) dX4_fault_24 ?_
      refine R_callV0 (pc := 25) (T := TX4) cal_X4_atEnd kw655 kw656 kw657 dX4_fault_25 (c_X4_atEnd ho13 (by omega) (by omega)) (by decide) (Nat.le_of_ble_eq_true rfl) (ci := 3) rfl (by assumption) ?_
      rintro _ _ ⟨rfl, rfl⟩
      refine R_ifb_eq (pc := 28) 33 dX4_fault_28 (by decide) (fun c_28 => ?_) (fun c_28 => ?_)
      · skip
        refine R_aload_n0 (pc := 33) dX4_fault_33 ?_
        refine R_callV0 (pc := 34) (T := TX4) cal_X4_readSeparator kw659 kw660 kw661 dX4_fault_34 (c_X4_readSeparator (by assumption) (by assumption) (by assumption) (by assumption) (by omega)) (by decide) (Nat.le_of_ble_eq_true rfl) (ci := 3) rfl (by assumption) ?_
        rintro _ h34 ⟨rfl, e34⟩
        refine R_ifb_ne (pc := 37) 45 dX4_fault_37 (by decide) (fun c_37 => ?_) (fun c_37 => ?_)
        · skip
          have q37 : h34 = oput h u A n ((pord (sg f n) a1 qq).2.1 + 1) (pord (sg f n) a1 qq).2.2 := by rw [e34, if_pos c_37, q13]; exact oput_oput _ _ _ _ _ _ _ _ _ _
          refine R_iinc1 (pc := 45) dX4_fault_45 rfl (by decide) ?_
          refine R_goto (pc := 48) 6 dX4_fault_48 (by decide) ?_
          rw [nI_s]
          exact R_post (fun r h9 q9 => by rw [pfault_s, if_pos c_16, if_neg c_28, if_pos c_37]; exact q9) (ih (i + 1) _ _ _ (by omega) (by omega) q37)
        · skip
          have q37 : h34 = oput h u A n (pord (sg f n) a1 qq).2.1 (pord (sg f n) a1 qq).2.2 := by rw [e34, if_neg c_37]; exact q13
          have ho37 : h34.2 u = some (.inr (3, ob3 A (orF n (pord (sg f n) a1 qq).2.1 (pord (sg f n) a1 qq).2.2))) := by rw [q37]; exact oput_o _ _ _ _ _ _
          refine R_aload_n0 (pc := 40) dX4_fault_40 ?_
          refine G_X4_19 (pc := 41) dX4_fault_41 (by assumption) ?_
          refine R_iret (pc := 44) rfl rfl dX4_fault_44 ?_
          exact ⟨by rw [pfault_s, if_pos c_16, if_neg c_28, if_neg c_37]; rfl, by rw [pfault_s, if_pos c_16, if_neg c_28, if_neg c_37]; exact q37⟩
      · skip
        refine R_iconst (pc := 31) (v := (-1)) dX4_fault_31 (by decide) ?_
        refine R_iret (pc := 32) rfl rfl dX4_fault_32 ?_
        exact ⟨by rw [pfault_s, if_pos c_16, if_pos c_28], by rw [pfault_s, if_pos c_16, if_pos c_28]; exact q13⟩
    · skip
      refine R_aload_n0 (pc := 19) dX4_fault_19 ?_
      refine G_X4_19 (pc := 20) dX4_fault_20 (by assumption) ?_
      refine R_iret (pc := 23) rfl rfl dX4_fault_23 ?_
      exact ⟨by rw [pfault_s, if_neg c_16]; rfl, by rw [pfault_s, if_neg c_16]; exact q13⟩

set_option maxHeartbeats 4000000 in
set_option maxRecDepth 100000 in
theorem c_X4_fault (ho : h.2 u = some (.inr (3, ob3 A (orF n a q)))) (hs : h.2 (A 0) = some (.inl (0, 100, .inl f))) (hn : n ≤ 100) (hne : u ≠ A 0)  : Spec l D cA N0 m_X4_fault 3 0 0 [.ref u] h (fun r h' => r = some (.int (pfault (sg f n) n 101 0 q).1) ∧ h' = oput h u A n (pfault (sg f n) n 101 0 q).2.1 (pfault (sg f n) n 101 0 q).2.2) := by
  refine Spec.of (L := [some (.ref u), none]) (by decide) rfl (Nat.le_of_ble_eq_true rfl) ?_
  refine R_aload_n0 (pc := 0) dX4_fault_0 ?_
  refine R_callV0 (pc := 1) (T := TX4) cal_X4_rewind kw625 kw626 kw627 dX4_fault_1 (c_X4_rewind (by assumption)) (by decide) (Nat.le_of_ble_eq_true rfl) (ci := 3) rfl (by assumption) ?_
  rintro _ h1 ⟨rfl, e1⟩
  refine R_iconst (pc := 4) (v := 0) dX4_fault_4 (by decide) ?_
  refine R_istore_n1 (pc := 5) dX4_fault_5 rfl (by decide) ?_
  exact L_X4_fault hs hn hne 101 0 0 q _ rfl (by decide) e1

set_option maxHeartbeats 4000000 in
set_option maxRecDepth 100000 in
theorem c_X4_addSign (ho : h.2 u = some (.inr (3, ob3 A (orF n a q)))) (hs : h.2 (A 0) = some (.inl (0, 100, .inl f))) (hn : n ≤ 100) (hne : u ≠ A 0) {x : Int32} : Spec l D cA N0 m_X4_addSign 0 0 0 [.ref u, .int x] h (fun r h' => if 1 ≤ x ∧ x ≤ 255 then (if n < 100 then r = some (.int (nI (n + 1))) ∧ h' = oput (hput h (A 0) (.inl (0, 100, .inl (upd f n x)))) u A (n + 1) a q else r = some (.int (-3)) ∧ h' = h) else r = some (.int (-1)) ∧ h' = h) := by
  refine Spec.of (L := [some (.ref u), some (.int x)]) (by decide) rfl (Nat.le_of_ble_eq_true rfl) ?_
  refine R_iload_n1 (pc := 0) dX4_addSign_0 ?_
  refine R_iconst (pc := 1) (v := 1) dX4_addSign_1 (by decide) ?_
  refine R_icmp_lt (pc := 2) 12 dX4_addSign_2 (by decide) (fun c_2 => ?_) (fun c_2 => ?_)
  · skip
    have d_2 := Int32.not_le.mpr c_2
    refine R_iconst (pc := 12) (v := (-1)) dX4_addSign_12 (by decide) ?_
    refine R_iret (pc := 13) rfl rfl dX4_addSign_13 ?_
    rw [if_neg (fun z => d_2 z.1)]
    exact ⟨rfl, rfl⟩
  · skip
    have d_2 := Int32.not_lt.mp c_2
    refine R_iload_n1 (pc := 5) dX4_addSign_5 ?_
    refine R_sipush (pc := 6) (v := 255) dX4_addSign_6 (by decide) ?_
    refine R_icmp_le (pc := 9) 14 dX4_addSign_9 (by decide) (fun c_9 => ?_) (fun c_9 => ?_)
    · skip
      have d_9 := Int32.not_lt.mpr c_9
      refine R_aload_n0 (pc := 14) dX4_addSign_14 ?_
      refine G_X4_15 (pc := 15) dX4_addSign_15 (by assumption) ?_
      refine R_aload_n0 (pc := 18) dX4_addSign_18 ?_
      refine G_X4_11 (pc := 19) dX4_addSign_19 (by assumption) ?_
      refine R_alen (pc := 22) (v := 100) dX4_addSign_22 (by assumption) (by decide) rfl ?_
      refine R_icmp_lt (pc := 23) 29 dX4_addSign_23 (by decide) (fun c_23 => ?_) (fun c_23 => ?_)
      · skip
        have d_23 := Int32.not_le.mpr c_23
        have hn1 : n < 100 := (nI_ltI (by omega) (by decide)).mp (show nI n < nI 100 from c_23)
        refine R_aload_n0 (pc := 29) dX4_addSign_29 ?_
        refine G_X4_11 (pc := 30) dX4_addSign_30 (by assumption) ?_
        refine R_aload_n0 (pc := 33) dX4_addSign_33 ?_
        refine G_X4_15 (pc := 34) dX4_addSign_34 (by assumption) ?_
        refine R_iload_n1 (pc := 37) dX4_addSign_37 ?_
        refine R_iastF (pc := 38) dX4_addSign_38 (by assumption) (in_n (show n < 100 by omega) (by decide)) (fun h1 e1 f1 => ?_)
        rw [show orF n a q 1 = nI n from rfl, nI_clamp (show n < 2 ^ 31 by omega)] at e1
        have ho8 : h1.2 u = some (.inr (3, ob3 A (orF n a q))) := by rw [e1, hput_ne _ _ hne]; exact ho
        refine R_aload_n0 (pc := 39) dX4_addSign_39 ?_
        refine R_dup (pc := 40) dX4_addSign_40 rfl ?_
        refine G_X4_15 (pc := 41) dX4_addSign_41 (by assumption) ?_
        refine R_iconst (pc := 44) (v := 1) dX4_addSign_44 (by decide) ?_
        refine R_iadd (pc := 45) dX4_addSign_45 ?_
        refine P_X4_15 (pc := 46) dX4_addSign_46 (by assumption) (fun h2 e2 f2 => ?_)
        have e99 := e2
        refine R_aload_n0 (pc := 49) dX4_addSign_49 ?_
        refine G_X4_15 (pc := 50) dX4_addSign_50 (by assumption) ?_
        refine R_iret (pc := 53) rfl rfl dX4_addSign_53 ?_
        rw [if_pos ⟨d_2, c_9⟩, if_pos hn1]
        exact ⟨congrArg (fun z => some (Value.int z)) (nI_1 n), by rw [e2, e1, oput, ← or_len (n := n), ← nI_1]; rfl⟩
      · skip
        have d_23 := Int32.not_lt.mp c_23
        refine R_bipush (pc := 26) (v := (-3)) dX4_addSign_26 (by decide) ?_
        refine R_iret (pc := 28) rfl rfl dX4_addSign_28 ?_
        rw [if_pos ⟨d_2, c_9⟩, if_neg (fun z => c_23 (show nI n < nI 100 from (nI_ltI (by omega) (by decide)).mpr z))]
        exact ⟨rfl, rfl⟩
    · skip
      have d_9 := Int32.not_le.mp c_9
      refine R_iconst (pc := 12) (v := (-1)) dX4_addSign_12 (by decide) ?_
      refine R_iret (pc := 13) rfl rfl dX4_addSign_13 ?_
      rw [if_neg (fun z => c_9 z.2)]
      exact ⟨rfl, rfl⟩

set_option maxHeartbeats 4000000 in
set_option maxRecDepth 100000 in
theorem c_X4_obey (ho : h.2 u = some (.inr (3, ob3 A (orF n a q)))) {g : Nat} {G : Gm} (hG : GmAt h g G) (hx : ∀ i, i < 8 → 0 ≤ shF G i 2 ∧ shF G i 2 < 81) : Spec l D cA N0 m_X4_obey 5 0 0 [.ref u, .ref g] h (fun r h' => r = some (.int (k_obey G q).1) ∧ h' = gput h g (k_obey G q).2) := by
  refine Spec.of (L := [some (.ref u), some (.ref g)]) (by decide) rfl (Nat.le_of_ble_eq_true rfl) ?_
  have go := hG.o0
  refine R_aload_n0 (pc := 0) dX4_obey_0 ?_
  refine G_X4_43 (pc := 1) dX4_obey_1 (by assumption) ?_
  refine R_swG (pc := 4) (lo := 102) (hi := 120) 174 dX4_obey_4 (by decide) (fun c_4 => ?_) (fun c_4 c_4b => ?_)
  · skip
    refine R_aload_n1 (pc := 174) dX4_obey_174 ?_
    refine R_callV0 (pc := 175) (T := TX1) cal_X1_endTurn kw675 kw557 kw558 dX4_obey_175 (c_X1_endTurn (by assumption)) (by decide) (Nat.le_of_ble_eq_true rfl) (ci := 1) rfl (by assumption) ?_
    rintro _ h9 ⟨rfl, e_obey⟩
    refine R_iret (pc := 178) rfl rfl dX4_obey_178 ?_
    have hk : k_obey G q = k_end G := by have c_4q : (q 0).toInt < 102 ∨ 120 < (q 0).toInt := c_4; unfold k_obey; rw [if_neg (sw_ne c_4q (v := 116) (by decide)), if_neg (sw_ne c_4q (v := 115) (by decide)), if_neg (sw_ne c_4q (v := 102) (by decide)), if_neg (sw_ne c_4q (v := 103) (by decide)), if_neg (sw_ne c_4q (v := 120) (by decide)), if_neg (sw_ne c_4q (v := 114) (by decide))]
    rw [hk]
    exact ⟨rfl, e_obey⟩
  · skip
    rcases sw_102_120 _ c_4 c_4b with c_4 | c_4 | c_4 | c_4 | c_4 | c_4 | c_4 | c_4 | c_4 | c_4 | c_4 | c_4 | c_4 | c_4 | c_4 | c_4 | c_4 | c_4 | c_4
    · skip
      refine R_swE (pc := 4) (v := 102) (off := 118) 122 dX4_obey_4 c_4 (by decide) (by decide) (by decide) (by decide) ?_
      refine R_aload_n1 (pc := 122) dX4_obey_122 ?_
      refine R_aload_n0 (pc := 123) dX4_obey_123 ?_
      refine G_X4_60 (pc := 124) dX4_obey_124 (by assumption) ?_
      refine R_aload_n0 (pc := 127) dX4_obey_127 ?_
      refine G_X4_63 (pc := 128) dX4_obey_128 (by assumption) ?_
      refine R_aload_n0 (pc := 131) dX4_obey_131 ?_
      refine G_X4_66 (pc := 132) dX4_obey_132 (by assumption) ?_
      refine R_callV3 (pc := 135) (T := TX1) cal_X1_fireAt kw671 kw482 kw483 dX4_obey_135 (c_X1_fireAt (by assumption)) (by decide) (Nat.le_of_ble_eq_true rfl) (ci := 1) rfl (by assumption) ?_
      rintro _ h9 ⟨rfl, e_obey⟩
      refine R_iret (pc := 138) rfl rfl dX4_obey_138 ?_
      have hk : k_obey G q = k_fire G (q 1) (q 2) (q 3) := by unfold k_obey; rw [show q 0 = 102 from c_4]; rfl
      rw [hk]
      exact ⟨rfl, e_obey⟩
    · skip
      refine R_swE (pc := 4) (v := 103) (off := 135) 139 dX4_obey_4 c_4 (by decide) (by decide) (by decide) (by decide) ?_
      refine R_aload_n1 (pc := 139) dX4_obey_139 ?_
      refine R_aload_n0 (pc := 140) dX4_obey_140 ?_
      refine G_X4_60 (pc := 141) dX4_obey_141 (by assumption) ?_
      refine R_aload_n0 (pc := 144) dX4_obey_144 ?_
      refine G_X4_63 (pc := 145) dX4_obey_145 (by assumption) ?_
      refine R_callV2 (pc := 148) (T := TX1) cal_X1_grappleTwo kw672 kw524 kw525 dX4_obey_148 (c_X1_grappleTwo (by assumption) (by assumption)) (by decide) (Nat.le_of_ble_eq_true rfl) (ci := 1) rfl (by assumption) ?_
      rintro _ h9 ⟨rfl, e_obey⟩
      refine R_iret (pc := 151) rfl rfl dX4_obey_151 ?_
      have hk : k_obey G q = k_grap G (q 1) (q 2) := by unfold k_obey; rw [show q 0 = 103 from c_4]; rfl
      rw [hk]
      exact ⟨rfl, e_obey⟩
    · skip
      refine R_swE (pc := 4) (v := 104) (off := 170) 174 dX4_obey_4 c_4 (by decide) (by decide) (by decide) (by decide) ?_
      refine R_aload_n1 (pc := 174) dX4_obey_174 ?_
      refine R_callV0 (pc := 175) (T := TX1) cal_X1_endTurn kw675 kw557 kw558 dX4_obey_175 (c_X1_endTurn (by assumption)) (by decide) (Nat.le_of_ble_eq_true rfl) (ci := 1) rfl (by assumption) ?_
      rintro _ h9 ⟨rfl, e_obey⟩
      refine R_iret (pc := 178) rfl rfl dX4_obey_178 ?_
      have hk : k_obey G q = k_end G := by unfold k_obey; rw [show q 0 = 104 from c_4]; rfl
      rw [hk]
      exact ⟨rfl, e_obey⟩
    · skip
      refine R_swE (pc := 4) (v := 105) (off := 170) 174 dX4_obey_4 c_4 (by decide) (by decide) (by decide) (by decide) ?_
      refine R_aload_n1 (pc := 174) dX4_obey_174 ?_
      refine R_callV0 (pc := 175) (T := TX1) cal_X1_endTurn kw675 kw557 kw558 dX4_obey_175 (c_X1_endTurn (by assumption)) (by decide) (Nat.le_of_ble_eq_true rfl) (ci := 1) rfl (by assumption) ?_
      rintro _ h9 ⟨rfl, e_obey⟩
      refine R_iret (pc := 178) rfl rfl dX4_obey_178 ?_
      have hk : k_obey G q = k_end G := by unfold k_obey; rw [show q 0 = 105 from c_4]; rfl
      rw [hk]
      exact ⟨rfl, e_obey⟩
    · skip
      refine R_swE (pc := 4) (v := 106) (off := 170) 174 dX4_obey_4 c_4 (by decide) (by decide) (by decide) (by decide) ?_
      refine R_aload_n1 (pc := 174) dX4_obey_174 ?_
      refine R_callV0 (pc := 175) (T := TX1) cal_X1_endTurn kw675 kw557 kw558 dX4_obey_175 (c_X1_endTurn (by assumption)) (by decide) (Nat.le_of_ble_eq_true rfl) (ci := 1) rfl (by assumption) ?_
      rintro _ h9 ⟨rfl, e_obey⟩
      refine R_iret (pc := 178) rfl rfl dX4_obey_178 ?_
      have hk : k_obey G q = k_end G := by unfold k_obey; rw [show q 0 = 106 from c_4]; rfl
      rw [hk]
      exact ⟨rfl, e_obey⟩
    · skip
      refine R_swE (pc := 4) (v := 107) (off := 170) 174 dX4_obey_4 c_4 (by decide) (by decide) (by decide) (by decide) ?_
      refine R_aload_n1 (pc := 174) dX4_obey_174 ?_
      refine R_callV0 (pc := 175) (T := TX1) cal_X1_endTurn kw675 kw557 kw558 dX4_obey_175 (c_X1_endTurn (by assumption)) (by decide) (Nat.le_of_ble_eq_true rfl) (ci := 1) rfl (by assumption) ?_
      rintro _ h9 ⟨rfl, e_obey⟩
      refine R_iret (pc := 178) rfl rfl dX4_obey_178 ?_
      have hk : k_obey G q = k_end G := by unfold k_obey; rw [show q 0 = 107 from c_4]; rfl
      rw [hk]
      exact ⟨rfl, e_obey⟩
    · skip
      refine R_swE (pc := 4) (v := 108) (off := 170) 174 dX4_obey_4 c_4 (by decide) (by decide) (by decide) (by decide) ?_
      refine R_aload_n1 (pc := 174) dX4_obey_174 ?_
      refine R_callV0 (pc := 175) (T := TX1) cal_X1_endTurn kw675 kw557 kw558 dX4_obey_175 (c_X1_endTurn (by assumption)) (by decide) (Nat.le_of_ble_eq_true rfl) (ci := 1) rfl (by assumption) ?_
      rintro _ h9 ⟨rfl, e_obey⟩
      refine R_iret (pc := 178) rfl rfl dX4_obey_178 ?_
      have hk : k_obey G q = k_end G := by unfold k_obey; rw [show q 0 = 108 from c_4]; rfl
      rw [hk]
      exact ⟨rfl, e_obey⟩
    · skip
      refine R_swE (pc := 4) (v := 109) (off := 170) 174 dX4_obey_4 c_4 (by decide) (by decide) (by decide) (by decide) ?_
      refine R_aload_n1 (pc := 174) dX4_obey_174 ?_
      refine R_callV0 (pc := 175) (T := TX1) cal_X1_endTurn kw675 kw557 kw558 dX4_obey_175 (c_X1_endTurn (by assumption)) (by decide) (Nat.le_of_ble_eq_true rfl) (ci := 1) rfl (by assumption) ?_
      rintro _ h9 ⟨rfl, e_obey⟩
      refine R_iret (pc := 178) rfl rfl dX4_obey_178 ?_
      have hk : k_obey G q = k_end G := by unfold k_obey; rw [show q 0 = 109 from c_4]; rfl
      rw [hk]
      exact ⟨rfl, e_obey⟩
    · skip
      refine R_swE (pc := 4) (v := 110) (off := 170) 174 dX4_obey_4 c_4 (by decide) (by decide) (by decide) (by decide) ?_
      refine R_aload_n1 (pc := 174) dX4_obey_174 ?_
      refine R_callV0 (pc := 175) (T := TX1) cal_X1_endTurn kw675 kw557 kw558 dX4_obey_175 (c_X1_endTurn (by assumption)) (by decide) (Nat.le_of_ble_eq_true rfl) (ci := 1) rfl (by assumption) ?_
      rintro _ h9 ⟨rfl, e_obey⟩
      refine R_iret (pc := 178) rfl rfl dX4_obey_178 ?_
      have hk : k_obey G q = k_end G := by unfold k_obey; rw [show q 0 = 110 from c_4]; rfl
      rw [hk]
      exact ⟨rfl, e_obey⟩
    · skip
      refine R_swE (pc := 4) (v := 111) (off := 170) 174 dX4_obey_4 c_4 (by decide) (by decide) (by decide) (by decide) ?_
      refine R_aload_n1 (pc := 174) dX4_obey_174 ?_
      refine R_callV0 (pc := 175) (T := TX1) cal_X1_endTurn kw675 kw557 kw558 dX4_obey_175 (c_X1_endTurn (by assumption)) (by decide) (Nat.le_of_ble_eq_true rfl) (ci := 1) rfl (by assumption) ?_
      rintro _ h9 ⟨rfl, e_obey⟩
      refine R_iret (pc := 178) rfl rfl dX4_obey_178 ?_
      have hk : k_obey G q = k_end G := by unfold k_obey; rw [show q 0 = 111 from c_4]; rfl
      rw [hk]
      exact ⟨rfl, e_obey⟩
    · skip
      refine R_swE (pc := 4) (v := 112) (off := 170) 174 dX4_obey_4 c_4 (by decide) (by decide) (by decide) (by decide) ?_
      refine R_aload_n1 (pc := 174) dX4_obey_174 ?_
      refine R_callV0 (pc := 175) (T := TX1) cal_X1_endTurn kw675 kw557 kw558 dX4_obey_175 (c_X1_endTurn (by assumption)) (by decide) (Nat.le_of_ble_eq_true rfl) (ci := 1) rfl (by assumption) ?_
      rintro _ h9 ⟨rfl, e_obey⟩
      refine R_iret (pc := 178) rfl rfl dX4_obey_178 ?_
      have hk : k_obey G q = k_end G := by unfold k_obey; rw [show q 0 = 112 from c_4]; rfl
      rw [hk]
      exact ⟨rfl, e_obey⟩
    · skip
      refine R_swE (pc := 4) (v := 113) (off := 170) 174 dX4_obey_4 c_4 (by decide) (by decide) (by decide) (by decide) ?_
      refine R_aload_n1 (pc := 174) dX4_obey_174 ?_
      refine R_callV0 (pc := 175) (T := TX1) cal_X1_endTurn kw675 kw557 kw558 dX4_obey_175 (c_X1_endTurn (by assumption)) (by decide) (Nat.le_of_ble_eq_true rfl) (ci := 1) rfl (by assumption) ?_
      rintro _ h9 ⟨rfl, e_obey⟩
      refine R_iret (pc := 178) rfl rfl dX4_obey_178 ?_
      have hk : k_obey G q = k_end G := by unfold k_obey; rw [show q 0 = 113 from c_4]; rfl
      rw [hk]
      exact ⟨rfl, e_obey⟩
    · skip
      refine R_swE (pc := 4) (v := 114) (off := 157) 161 dX4_obey_4 c_4 (by decide) (by decide) (by decide) (by decide) ?_
      refine R_aload_n1 (pc := 161) dX4_obey_161 ?_
      refine R_aload_n0 (pc := 162) dX4_obey_162 ?_
      refine G_X4_60 (pc := 163) dX4_obey_163 (by assumption) ?_
      refine R_aload_n0 (pc := 166) dX4_obey_166 ?_
      refine G_X4_63 (pc := 167) dX4_obey_167 (by assumption) ?_
      refine R_callV2 (pc := 170) (T := TX1) cal_X1_mend kw674 kw545 kw546 dX4_obey_170 (c_X1_mend (by assumption)) (by decide) (Nat.le_of_ble_eq_true rfl) (ci := 1) rfl (by assumption) ?_
      rintro _ h9 ⟨rfl, e_obey⟩
      refine R_iret (pc := 173) rfl rfl dX4_obey_173 ?_
      have hk : k_obey G q = k_mend G (q 1) (q 2) := by unfold k_obey; rw [show q 0 = 114 from c_4]; rfl
      rw [hk]
      exact ⟨rfl, e_obey⟩
    · skip
      refine R_swE (pc := 4) (v := 115) (off := 105) 109 dX4_obey_4 c_4 (by decide) (by decide) (by decide) (by decide) ?_
      refine R_aload_n1 (pc := 109) dX4_obey_109 ?_
      refine R_aload_n0 (pc := 110) dX4_obey_110 ?_
      refine G_X4_60 (pc := 111) dX4_obey_111 (by assumption) ?_
      refine R_aload_n0 (pc := 114) dX4_obey_114 ?_
      refine G_X4_63 (pc := 115) dX4_obey_115 (by assumption) ?_
      refine R_callV2 (pc := 118) (T := TX1) cal_X1_sailAlong kw670 kw420 kw421 dX4_obey_118 (c_X1_sailAlong (by assumption)) (by decide) (Nat.le_of_ble_eq_true rfl) (ci := 1) rfl (by assumption) ?_
      rintro _ h9 ⟨rfl, e_obey⟩
      refine R_iret (pc := 121) rfl rfl dX4_obey_121 ?_
      have hk : k_obey G q = k_sail G (q 1) (q 2) := by unfold k_obey; rw [show q 0 = 115 from c_4]; rfl
      rw [hk]
      exact ⟨rfl, e_obey⟩
    · skip
      refine R_swE (pc := 4) (v := 116) (off := 92) 96 dX4_obey_4 c_4 (by decide) (by decide) (by decide) (by decide) ?_
      refine R_aload_n1 (pc := 96) dX4_obey_96 ?_
      refine R_aload_n0 (pc := 97) dX4_obey_97 ?_
      refine G_X4_60 (pc := 98) dX4_obey_98 (by assumption) ?_
      refine R_aload_n0 (pc := 101) dX4_obey_101 ?_
      refine G_X4_63 (pc := 102) dX4_obey_102 (by assumption) ?_
      refine R_callV2 (pc := 105) (T := TX1) cal_X1_tellCard kw669 kw384 kw385 dX4_obey_105 (c_X1_tellCard (by assumption)) (by decide) (Nat.le_of_ble_eq_true rfl) (ci := 1) rfl (by assumption) ?_
      rintro _ h9 ⟨rfl, e_obey⟩
      refine R_iret (pc := 108) rfl rfl dX4_obey_108 ?_
      have hk : k_obey G q = k_tell G (q 1) (q 2) := by unfold k_obey; rw [show q 0 = 116 from c_4]; rfl
      rw [hk]
      exact ⟨rfl, e_obey⟩
    · skip
      refine R_swE (pc := 4) (v := 117) (off := 170) 174 dX4_obey_4 c_4 (by decide) (by decide) (by decide) (by decide) ?_
      refine R_aload_n1 (pc := 174) dX4_obey_174 ?_
      refine R_callV0 (pc := 175) (T := TX1) cal_X1_endTurn kw675 kw557 kw558 dX4_obey_175 (c_X1_endTurn (by assumption)) (by decide) (Nat.le_of_ble_eq_true rfl) (ci := 1) rfl (by assumption) ?_
      rintro _ h9 ⟨rfl, e_obey⟩
      refine R_iret (pc := 178) rfl rfl dX4_obey_178 ?_
      have hk : k_obey G q = k_end G := by unfold k_obey; rw [show q 0 = 117 from c_4]; rfl
      rw [hk]
      exact ⟨rfl, e_obey⟩
    · skip
      refine R_swE (pc := 4) (v := 118) (off := 170) 174 dX4_obey_4 c_4 (by decide) (by decide) (by decide) (by decide) ?_
      refine R_aload_n1 (pc := 174) dX4_obey_174 ?_
      refine R_callV0 (pc := 175) (T := TX1) cal_X1_endTurn kw675 kw557 kw558 dX4_obey_175 (c_X1_endTurn (by assumption)) (by decide) (Nat.le_of_ble_eq_true rfl) (ci := 1) rfl (by assumption) ?_
      rintro _ h9 ⟨rfl, e_obey⟩
      refine R_iret (pc := 178) rfl rfl dX4_obey_178 ?_
      have hk : k_obey G q = k_end G := by unfold k_obey; rw [show q 0 = 118 from c_4]; rfl
      rw [hk]
      exact ⟨rfl, e_obey⟩
    · skip
      refine R_swE (pc := 4) (v := 119) (off := 170) 174 dX4_obey_4 c_4 (by decide) (by decide) (by decide) (by decide) ?_
      refine R_aload_n1 (pc := 174) dX4_obey_174 ?_
      refine R_callV0 (pc := 175) (T := TX1) cal_X1_endTurn kw675 kw557 kw558 dX4_obey_175 (c_X1_endTurn (by assumption)) (by decide) (Nat.le_of_ble_eq_true rfl) (ci := 1) rfl (by assumption) ?_
      rintro _ h9 ⟨rfl, e_obey⟩
      refine R_iret (pc := 178) rfl rfl dX4_obey_178 ?_
      have hk : k_obey G q = k_end G := by unfold k_obey; rw [show q 0 = 119 from c_4]; rfl
      rw [hk]
      exact ⟨rfl, e_obey⟩
    · skip
      refine R_swE (pc := 4) (v := 120) (off := 148) 152 dX4_obey_4 c_4 (by decide) (by decide) (by decide) (by decide) ?_
      refine R_aload_n1 (pc := 152) dX4_obey_152 ?_
      refine R_aload_n0 (pc := 153) dX4_obey_153 ?_
      refine G_X4_60 (pc := 154) dX4_obey_154 (by assumption) ?_
      refine R_callV1 (pc := 157) (T := TX1) cal_X1_cutLoose kw673 kw537 kw538 dX4_obey_157 (c_X1_cutLoose (by assumption)) (by decide) (Nat.le_of_ble_eq_true rfl) (ci := 1) rfl (by assumption) ?_
      rintro _ h9 ⟨rfl, e_obey⟩
      refine R_iret (pc := 160) rfl rfl dX4_obey_160 ?_
      have hk : k_obey G q = k_cut G (q 1) := by unfold k_obey; rw [show q 0 = 120 from c_4]; rfl
      rw [hk]
      exact ⟨rfl, e_obey⟩

end LV14
