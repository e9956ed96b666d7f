/-! THE REFERENCE: an order, the fault of the text -/
theorem sg_in {t : Nat → Int32} {m a : Nat} (h : ¬ sg t m a = -1) : a < m := by
  by_cases h1 : a < m
  · exact h1
  · exact absurd (if_neg h1) h
theorem dig_in {t : Nat → Int32} {m a : Nat} (h : pdig (sg t m a) = true) : a < m := sg_in (fun z => by rw [z] at h; exact absurd h (by decide))
theorem pnum_in (t : Nat → Int32) (m : Nat) : ∀ (k : Nat) (v : Int32) (a : Nat), a ≤ m → (pnum (sg t m) k v a).2 ≤ m ∧ a ≤ (pnum (sg t m) k v a).2 ∧ ∀ j, a ≤ j → j < (pnum (sg t m) k v a).2 → pdig (sg t m j) = true
  | 0, v, a, h => ⟨h, Nat.le_refl _, fun j h1 h2 => absurd h2 (by simp only [pnum]; omega)⟩
  | k + 1, v, a, h => by
    rw [pnum_s]
    by_cases hd : pdig (sg t m a) = true
    · rw [if_pos hd]
      have hl := dig_in hd
      obtain ⟨h1, h2, h3⟩ := pnum_in t m k (v * 10 + sg t m a - 48) (a + 1) (by omega)
      refine ⟨h1, by omega, fun j hj1 hj2 => ?_⟩
      by_cases e : j = a
      · rw [e]; exact hd
      · exact h3 j (by omega) hj2
    · rw [if_neg hd]
      exact ⟨h, Nat.le_refl _, fun j h1 h2 => absurd h2 (by simp only []; omega)⟩
def plow (x : Int32) : Prop := 97 ≤ x ∧ x ≤ 122
theorem dig_nlow {x : Int32} (h : pdig x = true) : ¬ plow x := by
  unfold pdig at h
  rw [decide_eq_true_eq] at h
  exact fun z => absurd (Int32.le_trans z.1 h.2) (by decide)
theorem pargs_in (t : Nat → Int32) (m : Nat) : ∀ (r i a : Nat) (q : Nat → Int32), a ≤ m → (pargs (sg t m) r i a q).2.1 ≤ m ∧ a ≤ (pargs (sg t m) r i a q).2.1 ∧ ((pargs (sg t m) r i a q).1 = true → ∀ j, a ≤ j → j < (pargs (sg t m) r i a q).2.1 → ¬ plow (sg t m j))
  | 0, i, a, q, h => ⟨h, Nat.le_refl _, fun _ j h1 h2 => absurd h2 (by simp only [pargs]; omega)⟩
  | r + 1, i, a, q, h => by
    rw [pargs_s]
    by_cases h0 : i = 0
    · rw [if_pos h0]
      by_cases hd : pdig (sg t m a) = true
      · rw [if_pos hd]
        obtain ⟨h1, h2, h3⟩ := pnum_in t m (pmost (sg t m a)) 0 a h
        obtain ⟨g1, g2, g3⟩ := pargs_in t m r (i + 1) _ (upd q (i + 1) (pnum (sg t m) (pmost (sg t m a)) 0 a).1) h1
        refine ⟨g1, by omega, fun ht j hj1 hj2 => ?_⟩
        by_cases e : j < (pnum (sg t m) (pmost (sg t m a)) 0 a).2
        · exact dig_nlow (h3 j hj1 e)
        · exact g3 ht j (by omega) hj2
      · rw [if_neg hd]
        exact ⟨h, Nat.le_refl _, fun ht => absurd ht Bool.false_ne_true⟩
    · rw [if_neg h0]
      by_cases hc : sg t m a = 44
      · rw [if_pos hc]
        have hl : a < m := sg_in (fun z => by rw [z] at hc; exact absurd hc (by decide))
        by_cases hd : pdig (sg t m (a + 1)) = true
        · rw [if_pos hd]
          obtain ⟨h1, h2, h3⟩ := pnum_in t m (pmost (sg t m (a + 1))) 0 (a + 1) hl
          obtain ⟨g1, g2, g3⟩ := pargs_in t m r (i + 1) _ (upd q (i + 1) (pnum (sg t m) (pmost (sg t m (a + 1))) 0 (a + 1)).1) h1
          refine ⟨g1, by omega, fun ht j hj1 hj2 => ?_⟩
          by_cases e0 : j = a
          · subst e0; rw [hc]; exact fun z => absurd z.1 (by decide)
          · by_cases e : j < (pnum (sg t m) (pmost (sg t m (a + 1))) 0 (a + 1)).2
            · exact dig_nlow (h3 j (by omega) e)
            · exact g3 ht j (by omega) hj2
        · rw [if_neg hd]
          exact ⟨hl, Nat.le_succ a, fun ht => absurd ht Bool.false_ne_true⟩
      · rw [if_neg hc]
        exact ⟨h, Nat.le_refl _, fun ht => absurd ht Bool.false_ne_true⟩
theorem pnof_low {x : Int32} (h : ¬ pnof x = -1) : plow x := by
  unfold pnof at h
  by_cases h1 : x = 101
  · subst h1; exact ⟨by decide, by decide⟩
  · rw [if_neg h1] at h
    by_cases h2 : x = 120
    · subst h2; exact ⟨by decide, by decide⟩
    · rw [if_neg h2] at h
      by_cases h3 : x = 116 ∨ x = 115 ∨ x = 103 ∨ x = 114
      · rcases h3 with z | z | z | z <;> (subst z; exact ⟨by decide, by decide⟩)
      · rw [if_neg h3] at h
        by_cases h4 : x = 102
        · subst h4; exact ⟨by decide, by decide⟩
        · rw [if_neg h4] at h
          exact absurd rfl h
theorem pord_in (t : Nat → Int32) (m a : Nat) (q : Nat → Int32) (h : a ≤ m) : (pord (sg t m) a q).2.1 ≤ m ∧ ((pord (sg t m) a q).1 = true → a < (pord (sg t m) a q).2.1 ∧ plow (sg t m a) ∧ ∀ j, a < j → j < (pord (sg t m) a q).2.1 → ¬ plow (sg t m j)) := by
  unfold pord
  by_cases h1 : pnof (sg t m a) = -1
  · rw [if_pos h1]
    exact ⟨h, fun z => absurd z Bool.false_ne_true⟩
  · rw [if_neg h1]
    have hl : a < m := sg_in (fun z => h1 (by rw [z]; decide))
    obtain ⟨g1, g2, g3⟩ := pargs_in t m (pcnt (sg t m a)) 0 (a + 1) (upd q 0 (sg t m a)) hl
    exact ⟨g1, fun z => ⟨g2, pnof_low h1, fun j h2 h3 => g3 z j h2 h3⟩⟩
abbrev zok (c : Nat → Int32) (m : Nat) (R : Bool × Nat × (Nat → Int32)) : Prop := R.1 = true ∧ (R.2.1 = m ∨ c R.2.1 = 59)
theorem zok_f {c : Nat → Int32} {m : Nat} {R : Bool × Nat × (Nat → Int32)} (h : R.1 = false) : ¬ zok c m R := fun z => Bool.false_ne_true (h.symm.trans z.1)
section LV38
variable {l : Launch} {D : va_G} {cA : Nat → ClassId} {N0 : Nat} {h : AH} {u : Nat} {M : Mm}
set_option maxHeartbeats 4000000 in
set_option maxRecDepth 100000 in
theorem L_X10_order {m : Nat} (hm : m ≤ 100) (hml : M.1 4 = nI m) {K : Nat} (hK : K ≤ 3) : ∀ (r i a : Nat) (q nu : Nat → Int32) (h1 : AH), i + r = K → a + 8 * r < 2 ^ 18 → (∀ k, k < i → nu k = q (k + 1)) → h1 = mput h u (oM M a nu) → RunM l D cA N0 m_X10_order 2 0 0 (fun x h' => x = some (.int (bI (zok (sg M.2.2.2.1 m) m (pargs (sg M.2.2.2.1 m) r i a q)))) ∧ ∃ nu2, h' = mput h u (oM M (pargs (sg M.2.2.2.1 m) r i a q).2.1 nu2) ∧ ((pargs (sg M.2.2.2.1 m) r i a q).1 = true → ∀ k, k < K → nu2 k = (pargs (sg M.2.2.2.1 m) r i a q).2.2 (k + 1))) h1 0 0 30 [some (.ref u), some (.int (nI K)), some (.int (nI i))] [] := by
  intro r
  induction r with
  | zero =>
    intro i a q nu h1 hi ha hnu q1
    have hM1 := mAt q1
    have mo1 := hM1.o
    have ms1 := hM1.s
    have mb1 := hM1.b
    have mt1 := hM1.t
    have mn1 := hM1.n
    have mc1 := hM1.c
    refine R_iload_n2 (pc := 30) dX10_order_30 ?_
    refine R_iload_n1 (pc := 31) dX10_order_31 ?_
    refine R_icmp_ge (pc := 32) 80 dX10_order_32 (by decide) (fun c_32 => ?_) (fun c_32 => absurd (by rw [show i = K by omega]; exact Int32.le_refl _) c_32)
    refine R_aload_n0 (pc := 80) dX10_order_80 ?_
    refine G_X10_165 (pc := 81) dX10_order_81 (by assumption) ?_
    rw [show (oM M a nu).1 10 = nI a from rfl]
    refine R_aload_n0 (pc := 84) dX10_order_84 ?_
    refine G_X10_162 (pc := 85) dX10_order_85 (by assumption) ?_
    rw [show (oM M a nu).1 4 = nI m from hml]
    refine R_icmp_eq (pc := 88) 104 dX10_order_88 (by decide) (fun c_88 => ?_) (fun c_88 => ?_)
    · skip
      refine R_iconst (pc := 104) (v := 1) dX10_order_104 (by decide) ?_
      refine R_goto (pc := 105) 109 dX10_order_105 (by decide) ?_
      refine R_iret (pc := 109) rfl rfl dX10_order_109 ?_
      exact ⟨congrArg (fun z => some (Value.int z)) (bI_t (p := zok (sg M.2.2.2.1 m) m (pargs (sg M.2.2.2.1 m) 0 i a q)) ⟨rfl, Or.inl ((nI_eq (a := a) (by omega) (by omega)).mp c_88)⟩).symm, nu, q1, fun _ k hk => hnu k (by omega)⟩
    · skip
      refine R_aload_n0 (pc := 91) dX10_order_91 ?_
      refine R_aload_n0 (pc := 92) dX10_order_92 ?_
      refine G_X10_165 (pc := 93) dX10_order_93 (by assumption) ?_
      rw [show (oM M a nu).1 10 = nI a from rfl]
      refine R_callV1 (pc := 96) (T := TX10) cal_X10_letterAt kw1074 kw1076 kw48 dX10_order_96 (c_X10_letterAt (a := a) hM1 hm (show (oM M (a) _).1 4 = nI m from hml) (by omega)) (by decide) (Nat.le_of_ble_eq_true rfl) (ci := 8) rfl (by assumption) ?_
      rintro _ _ ⟨rfl, rfl⟩
      refine R_bipush (pc := 99) (v := 59) dX10_order_99 (by decide) ?_
      refine R_icmp_ne (pc := 101) 108 dX10_order_101 (by decide) (fun c_101 => ?_) (fun c_101 => ?_)
      · skip
        refine R_iconst (pc := 108) (v := 0) dX10_order_108 (by decide) ?_
        refine R_iret (pc := 109) rfl rfl dX10_order_109 ?_
        exact ⟨congrArg (fun z => some (Value.int z)) (bI_f (p := zok (sg M.2.2.2.1 m) m (pargs (sg M.2.2.2.1 m) 0 i a q)) (fun z => z.2.elim (fun y => c_88 (congrArg nI (show a = m from y))) (fun y => c_101 ((let_eq (by decide) (by decide)).mpr y)))).symm, nu, q1, fun _ k hk => hnu k (by omega)⟩
      · skip
        refine R_iconst (pc := 104) (v := 1) dX10_order_104 (by decide) ?_
        refine R_goto (pc := 105) 109 dX10_order_105 (by decide) ?_
        refine R_iret (pc := 109) rfl rfl dX10_order_109 ?_
        exact ⟨congrArg (fun z => some (Value.int z)) (bI_t (p := zok (sg M.2.2.2.1 m) m (pargs (sg M.2.2.2.1 m) 0 i a q)) ⟨rfl, Or.inr ((let_eq (by decide) (by decide)).mp c_101)⟩).symm, nu, q1, fun _ k hk => hnu k (by omega)⟩
  | succ r ih =>
    intro i a q nu h1 hi ha hnu q1
    have hM1 := mAt q1
    have mo1 := hM1.o
    have ms1 := hM1.s
    have mb1 := hM1.b
    have mt1 := hM1.t
    have mn1 := hM1.n
    have mc1 := hM1.c
    by_cases hi0 : i = 0
    · skip
      refine R_iload_n2 (pc := 30) dX10_order_30 ?_
      refine R_iload_n1 (pc := 31) dX10_order_31 ?_
      refine R_icmp_ge (pc := 32) 80 dX10_order_32 (by decide) (fun c_32 => absurd c_32 (nI_ge (show i < K by omega) (by omega))) (fun c_32 => ?_)
      refine R_iload_n2 (pc := 35) dX10_order_35 ?_
      refine R_if_le (pc := 36) 64 dX10_order_36 (by decide) (fun c_36 => ?_) (fun c_36 => absurd (by rw [hi0]; exact Int32.le_refl _) c_36)
      refine R_aload_n0 (pc := 64) dX10_order_64 ?_
      refine R_iload_n2 (pc := 65) dX10_order_65 ?_
      refine R_callV1 (pc := 66) (T := TX10) cal_X10_number kw1081 kw1083 kw49 dX10_order_66 (c_X10_number hm hml (p := i) (a := a) (by omega) (by omega) q1) (by decide) (Nat.le_of_ble_eq_true rfl) (ci := 8) rfl (by assumption) ?_
      rintro _ h66 ⟨rfl, q66⟩
      have hM66 := mAt q66
      have mo66 := hM66.o
      have ms66 := hM66.s
      have mb66 := hM66.b
      have mt66 := hM66.t
      have mn66 := hM66.n
      have mc66 := hM66.c
      refine R_ifb_ne (pc := 69) 74 dX10_order_69 (by decide) (fun c_69 => ?_) (fun c_69 => ?_)
      · skip
        have hd : pdig ((sg M.2.2.2.1 m) (a)) = true := c_69
        have hzn : zna (sg M.2.2.2.1 m) (a) = (pnum (sg M.2.2.2.1 m) (pmost ((sg M.2.2.2.1 m) (a))) 0 (a)).2 := if_pos hd
        have hzv : znv (sg M.2.2.2.1 m) (a) = (pnum (sg M.2.2.2.1 m) (pmost ((sg M.2.2.2.1 m) (a))) 0 (a)).1 := if_pos hd
        refine R_iinc2 (pc := 74) dX10_order_74 rfl (by decide) ?_
        refine R_goto (pc := 77) 30 dX10_order_77 (by decide) ?_
        rw [nI_s, pargs_s, if_pos hi0, if_pos hd]
        rw [hzn, hzv] at q66
        exact ih (i + 1) (pnum (sg M.2.2.2.1 m) (pmost ((sg M.2.2.2.1 m) (a))) 0 (a)).2 (upd q (i + 1) (pnum (sg M.2.2.2.1 m) (pmost ((sg M.2.2.2.1 m) (a))) 0 (a)).1) (upd nu i (pnum (sg M.2.2.2.1 m) (pmost ((sg M.2.2.2.1 m) (a))) 0 (a)).1) _ (by omega) (by have := pnum_le (sg M.2.2.2.1 m) (pmost ((sg M.2.2.2.1 m) (a))) 0 (a); have := pmost_le ((sg M.2.2.2.1 m) (a)); omega) (fun k hk => by
          by_cases e : k = i
          · subst e; rw [pk_us, pk_us]
          · rw [pk_un e, pk_un (show k + 1 ≠ i + 1 by omega)]; exact hnu k (by omega)) q66
      · skip
        refine R_iconst (pc := 72) (v := 0) dX10_order_72 (by decide) ?_
        refine R_iret (pc := 73) rfl rfl dX10_order_73 ?_
        have hd : ¬ pdig ((sg M.2.2.2.1 m) (a)) = true := c_69
        rw [(zn_n hd).1] at q66
        rw [pargs_s, if_pos hi0, if_neg hd]
        exact ⟨congrArg (fun z => some (Value.int z)) (bI_f (zok_f rfl)).symm, _, q66, fun z => absurd z Bool.false_ne_true⟩
    · skip
      refine R_iload_n2 (pc := 30) dX10_order_30 ?_
      refine R_iload_n1 (pc := 31) dX10_order_31 ?_
      refine R_icmp_ge (pc := 32) 80 dX10_order_32 (by decide) (fun c_32 => absurd c_32 (nI_ge (show i < K by omega) (by omega))) (fun c_32 => ?_)
      refine R_iload_n2 (pc := 35) dX10_order_35 ?_
      refine R_if_le (pc := 36) 64 dX10_order_36 (by decide) (fun c_36 => absurd c_36 (fun z => absurd (show nI i ≤ nI 0 from z) (nI_nle (show 0 < i by omega) (by omega)))) (fun c_36 => ?_)
      refine R_aload_n0 (pc := 39) dX10_order_39 ?_
      refine R_aload_n0 (pc := 40) dX10_order_40 ?_
      refine G_X10_165 (pc := 41) dX10_order_41 (by assumption) ?_
      rw [show (oM M a nu).1 10 = nI a from rfl]
      refine R_callV1 (pc := 44) (T := TX10) cal_X10_letterAt kw1074 kw1076 kw48 dX10_order_44 (c_X10_letterAt (a := a) hM1 hm (show (oM M (a) _).1 4 = nI m from hml) (by omega)) (by decide) (Nat.le_of_ble_eq_true rfl) (ci := 8) rfl (by assumption) ?_
      rintro _ _ ⟨rfl, rfl⟩
      refine R_bipush (pc := 47) (v := 44) dX10_order_47 (by decide) ?_
      refine R_icmp_eq (pc := 49) 54 dX10_order_49 (by decide) (fun c_49 => ?_) (fun c_49 => ?_)
      · skip
        have hc : (sg M.2.2.2.1 m) a = 44 := (let_eq (by decide) (by decide)).mp c_49
        refine R_aload_n0 (pc := 54) dX10_order_54 ?_
        refine R_dup (pc := 55) dX10_order_55 rfl ?_
        refine G_X10_165 (pc := 56) dX10_order_56 (by assumption) ?_
        rw [show (oM M a nu).1 10 = nI a from rfl]
        refine R_iconst (pc := 59) (v := 1) dX10_order_59 (by decide) ?_
        refine R_iadd (pc := 60) dX10_order_60 ?_
        rw [nI_1]
        refine P_X10_165 (pc := 61) dX10_order_61 (by assumption) (fun h1 e1 f1 => ?_)
        have q1 := mstep_o q1 e1
        have hM1 := mAt q1
        have mo1 := hM1.o
        have ms1 := hM1.s
        have mb1 := hM1.b
        have mt1 := hM1.t
        have mn1 := hM1.n
        have mc1 := hM1.c
        have q61 := q_cast (M2 := oM M (a + 1) nu) q1 (oM_f M a (a + 1) nu).symm
        have hM61 := mAt q61
        have mo61 := hM61.o
        have ms61 := hM61.s
        have mb61 := hM61.b
        have mt61 := hM61.t
        have mn61 := hM61.n
        have mc61 := hM61.c
        refine R_aload_n0 (pc := 64) dX10_order_64 ?_
        refine R_iload_n2 (pc := 65) dX10_order_65 ?_
        refine R_callV1 (pc := 66) (T := TX10) cal_X10_number kw1081 kw1083 kw49 dX10_order_66 (c_X10_number hm hml (p := i) (a := a + 1) (by omega) (by omega) q61) (by decide) (Nat.le_of_ble_eq_true rfl) (ci := 8) rfl (by assumption) ?_
        rintro _ h66 ⟨rfl, q66⟩
        have hM66 := mAt q66
        have mo66 := hM66.o
        have ms66 := hM66.s
        have mb66 := hM66.b
        have mt66 := hM66.t
        have mn66 := hM66.n
        have mc66 := hM66.c
        refine R_ifb_ne (pc := 69) 74 dX10_order_69 (by decide) (fun c_69 => ?_) (fun c_69 => ?_)
        · skip
          have hd : pdig ((sg M.2.2.2.1 m) (a + 1)) = true := c_69
          have hzn : zna (sg M.2.2.2.1 m) (a + 1) = (pnum (sg M.2.2.2.1 m) (pmost ((sg M.2.2.2.1 m) (a + 1))) 0 (a + 1)).2 := if_pos hd
          have hzv : znv (sg M.2.2.2.1 m) (a + 1) = (pnum (sg M.2.2.2.1 m) (pmost ((sg M.2.2.2.1 m) (a + 1))) 0 (a + 1)).1 := if_pos hd
          refine R_iinc2 (pc := 74) dX10_order_74 rfl (by decide) ?_
          refine R_goto (pc := 77) 30 dX10_order_77 (by decide) ?_
          rw [nI_s, pargs_s, if_neg hi0, if_pos hc, if_pos hd]
          rw [hzn, hzv] at q66
          exact ih (i + 1) (pnum (sg M.2.2.2.1 m) (pmost ((sg M.2.2.2.1 m) (a + 1))) 0 (a + 1)).2 (upd q (i + 1) (pnum (sg M.2.2.2.1 m) (pmost ((sg M.2.2.2.1 m) (a + 1))) 0 (a + 1)).1) (upd nu i (pnum (sg M.2.2.2.1 m) (pmost ((sg M.2.2.2.1 m) (a + 1))) 0 (a + 1)).1) _ (by omega) (by have := pnum_le (sg M.2.2.2.1 m) (pmost ((sg M.2.2.2.1 m) (a + 1))) 0 (a + 1); have := pmost_le ((sg M.2.2.2.1 m) (a + 1)); omega) (fun k hk => by
            by_cases e : k = i
            · subst e; rw [pk_us, pk_us]
            · rw [pk_un e, pk_un (show k + 1 ≠ i + 1 by omega)]; exact hnu k (by omega)) q66
        · skip
          refine R_iconst (pc := 72) (v := 0) dX10_order_72 (by decide) ?_
          refine R_iret (pc := 73) rfl rfl dX10_order_73 ?_
          have hd : ¬ pdig ((sg M.2.2.2.1 m) (a + 1)) = true := c_69
          rw [(zn_n hd).1] at q66
          rw [pargs_s, if_neg hi0, if_pos hc, if_neg hd]
          exact ⟨congrArg (fun z => some (Value.int z)) (bI_f (zok_f rfl)).symm, _, q66, fun z => absurd z Bool.false_ne_true⟩
      · skip
        refine R_iconst (pc := 52) (v := 0) dX10_order_52 (by decide) ?_
        refine R_iret (pc := 53) rfl rfl dX10_order_53 ?_
        have hc : ¬ (sg M.2.2.2.1 m) a = 44 := fun z => c_49 ((let_eq (by decide) (by decide)).mpr z)
        rw [pargs_s, if_neg hi0, if_neg hc]
        exact ⟨congrArg (fun z => some (Value.int z)) (bI_f (zok_f rfl)).symm, _, q1, fun z => absurd z Bool.false_ne_true⟩

set_option maxHeartbeats 4000000 in
set_option maxRecDepth 100000 in
theorem c_X10_order {m : Nat} (hm : m ≤ 100) (hml : M.1 4 = nI m) {a : Nat} (ha : a < 2 ^ 17) {nu : Nat → Int32} {h1 : AH} (q1 : h1 = mput h u (oM M a nu)) : Spec l D cA N0 m_X10_order 2 0 0 [.ref u] h1 (fun r h' => r = some (.int (bI (zok (sg M.2.2.2.1 m) m (pord (sg M.2.2.2.1 m) a zq)))) ∧ ∃ nu2, h' = mput h u (oM M (pord (sg M.2.2.2.1 m) a zq).2.1 nu2) ∧ ((pord (sg M.2.2.2.1 m) a zq).1 = true → ∀ k, k < pcnt ((sg M.2.2.2.1 m) a) → nu2 k = (pord (sg M.2.2.2.1 m) a zq).2.2 (k + 1))) := by
  refine Spec.of (L := [some (.ref u), none, none]) (by decide) rfl (Nat.le_of_ble_eq_true rfl) ?_
  have hM1 := mAt q1
  have mo1 := hM1.o
  have ms1 := hM1.s
  have mb1 := hM1.b
  have mt1 := hM1.t
  have mn1 := hM1.n
  have mc1 := hM1.c
  refine R_aload_n0 (pc := 0) dX10_order_0 ?_
  refine R_aload_n0 (pc := 1) dX10_order_1 ?_
  refine G_X10_165 (pc := 2) dX10_order_2 (by assumption) ?_
  rw [show (oM M a nu).1 10 = nI a from rfl]
  refine R_callV1 (pc := 5) (T := TX10) cal_X10_letterAt kw1074 kw1076 kw48 dX10_order_5 (c_X10_letterAt (a := a) hM1 hm (show (oM M (a) _).1 4 = nI m from hml) (by omega)) (by decide) (Nat.le_of_ble_eq_true rfl) (ci := 8) rfl (by assumption) ?_
  rintro _ _ ⟨rfl, rfl⟩
  refine R_callS1 (pc := 8) cal_X10_needs kw1078 kw1079 dX10_order_8 c_X10_needs (by decide) (Nat.le_of_ble_eq_true rfl) ?_
  rintro _ _ ⟨rfl, rfl⟩
  rw [show z_need (z_let (oM M a nu).2.2.2.1 m a) = pnof ((sg M.2.2.2.1 m) a) from let_need _ _ _]
  refine R_istore_n1 (pc := 11) dX10_order_11 rfl (by decide) ?_
  refine R_iload_n1 (pc := 12) dX10_order_12 ?_
  refine R_if_ge (pc := 13) 18 dX10_order_13 (by decide) (fun c_13 => ?_) (fun c_13 => ?_)
  · skip
    have d_13 := Int32.not_lt.mpr c_13
    have hp : ¬ pnof ((sg M.2.2.2.1 m) a) = -1 := fun z => absurd (by rw [z] at c_13; exact c_13) (show ¬ (0 : Int32) ≤ -1 by decide)
    obtain ⟨hK3, hKe⟩ := (pnof_n ((sg M.2.2.2.1 m) a)).resolve_left hp
    refine R_aload_n0 (pc := 18) dX10_order_18 ?_
    refine R_dup (pc := 19) dX10_order_19 rfl ?_
    refine G_X10_165 (pc := 20) dX10_order_20 (by assumption) ?_
    rw [show (oM M a nu).1 10 = nI a from rfl]
    refine R_iconst (pc := 23) (v := 1) dX10_order_23 (by decide) ?_
    refine R_iadd (pc := 24) dX10_order_24 ?_
    rw [nI_1]
    refine P_X10_165 (pc := 25) dX10_order_25 (by assumption) (fun h1 e1 f1 => ?_)
    have q1 := mstep_o q1 e1
    have hM1 := mAt q1
    have mo1 := hM1.o
    have ms1 := hM1.s
    have mb1 := hM1.b
    have mt1 := hM1.t
    have mn1 := hM1.n
    have mc1 := hM1.c
    refine R_iconst (pc := 28) (v := 0) dX10_order_28 (by decide) ?_
    refine R_istore_n2 (pc := 29) dX10_order_29 rfl (by decide) ?_
    have q25 := q_cast (M2 := oM M (a + 1) nu) q1 (oM_f M a (a + 1) nu).symm
    rw [show pord (sg M.2.2.2.1 m) a zq = pargs (sg M.2.2.2.1 m) (pcnt ((sg M.2.2.2.1 m) a)) 0 (a + 1) (upd zq 0 ((sg M.2.2.2.1 m) a)) from if_neg hp]
    refine Run.cast (L_X10_order hm hml hK3 (pcnt ((sg M.2.2.2.1 m) a)) 0 (a + 1) (upd zq 0 ((sg M.2.2.2.1 m) a)) nu _ (Nat.zero_add _) (by omega) (fun k hk => absurd hk (Nat.not_lt_zero k)) q25) rfl rfl rfl rfl ?_ rfl
    rw [hKe]
    rfl
  · skip
    have d_13 := Int32.not_le.mp c_13
    have hp : pnof ((sg M.2.2.2.1 m) a) = -1 := by
      rcases pnof_n ((sg M.2.2.2.1 m) a) with z | ⟨z1, z2⟩
      · exact z
      · exact absurd (show (0 : Int32) ≤ pnof ((sg M.2.2.2.1 m) a) by rw [z2]; exact nI_pos' (by omega)) c_13
    refine R_iconst (pc := 16) (v := 0) dX10_order_16 (by decide) ?_
    refine R_iret (pc := 17) rfl rfl dX10_order_17 ?_
    rw [show pord (sg M.2.2.2.1 m) a zq = (false, a, upd zq 0 (sg M.2.2.2.1 m a)) from if_pos hp]
    exact ⟨congrArg (fun z => some (Value.int z)) (bI_f (zok_f rfl)).symm, _, q1, fun z => absurd z Bool.false_ne_true⟩

set_option maxHeartbeats 4000000 in
set_option maxRecDepth 100000 in
theorem L_X10_faultAt {m : Nat} (hm : m ≤ 100) (hml : M.1 4 = nI m) : ∀ (K a : Nat) (nu : Nat → Int32) (h1 : AH), a ≤ m → m < a + K → h1 = mput h u (oM M a nu) → RunM l D cA N0 m_X10_faultAt 3 0 0 (fun r h' => r = some (.int (pfault (sg M.2.2.2.1 m) m K a zq).1) ∧ ∃ b nu2, h' = mput h u (oM M b nu2)) h1 0 0 5 [some (.ref u)] [] := by
  intro K
  induction K with
  | zero =>
    intro a nu h1 ha hK q1
    omega
  | succ K ih =>
    intro a nu h1 ha hK q1
    have hM1 := mAt q1
    have mo1 := hM1.o
    have ms1 := hM1.s
    have mb1 := hM1.b
    have mt1 := hM1.t
    have mn1 := hM1.n
    have mc1 := hM1.c
    refine R_aload_n0 (pc := 5) dX10_faultAt_5 ?_
    refine R_callV0 (pc := 6) (T := TX10) cal_X10_order kw1070 kw1072 kw47 dX10_faultAt_6 (c_X10_order hm hml (a := a) (by omega) q1) (by decide) (Nat.le_of_ble_eq_true rfl) (ci := 8) rfl (by assumption) ?_
    rintro _ h6 ⟨rfl, nu2, q6, hnu2⟩
    have hM6 := mAt q6
    have mo6 := hM6.o
    have ms6 := hM6.s
    have mb6 := hM6.b
    have mt6 := hM6.t
    have mn6 := hM6.n
    have mc6 := hM6.c
    obtain ⟨hin, hgo⟩ := pord_in M.2.2.2.1 m a zq ha
    refine R_ifb_eq (pc := 9) 38 dX10_faultAt_9 (by decide) (fun c_9 => ?_) (fun c_9 => ?_)
    · skip
      refine R_aload_n0 (pc := 38) dX10_faultAt_38 ?_
      refine G_X10_165 (pc := 39) dX10_faultAt_39 (by assumption) ?_
      refine R_iret (pc := 42) rfl rfl dX10_faultAt_42 ?_
      have hnk : ¬ zok (sg M.2.2.2.1 m) m (pord (sg M.2.2.2.1 m) a zq) := c_9
      have hv : (pfault (sg M.2.2.2.1 m) m (K + 1) a zq).1 = nI (pord (sg M.2.2.2.1 m) a zq).2.1 := by
        rw [pfault_s]
        by_cases h1 : (pord (sg M.2.2.2.1 m) a zq).1 = true
        · rw [if_pos h1, if_neg (fun z => hnk ⟨h1, Or.inl (Nat.le_antisymm hin z)⟩), if_neg (fun z => hnk ⟨h1, Or.inr z⟩)]
        · rw [if_neg h1]
      rw [hv]
      exact ⟨rfl, _, _, q6⟩
    · skip
      have hok : zok (sg M.2.2.2.1 m) m (pord (sg M.2.2.2.1 m) a zq) := c_9
      refine R_aload_n0 (pc := 12) dX10_faultAt_12 ?_
      refine G_X10_165 (pc := 13) dX10_faultAt_13 (by assumption) ?_
      refine R_aload_n0 (pc := 16) dX10_faultAt_16 ?_
      refine G_X10_162 (pc := 17) dX10_faultAt_17 (by assumption) ?_
      rw [show (oM M (pord (sg M.2.2.2.1 m) a zq).2.1 nu2).1 10 = nI (pord (sg M.2.2.2.1 m) a zq).2.1 from rfl, show (oM M (pord (sg M.2.2.2.1 m) a zq).2.1 nu2).1 4 = nI m from hml]
      refine R_icmp_ne (pc := 20) 25 dX10_faultAt_20 (by decide) (fun c_20 => ?_) (fun c_20 => ?_)
      · skip
        refine R_aload_n0 (pc := 25) dX10_faultAt_25 ?_
        refine R_dup (pc := 26) dX10_faultAt_26 rfl ?_
        refine G_X10_165 (pc := 27) dX10_faultAt_27 (by assumption) ?_
        rw [show (oM M (pord (sg M.2.2.2.1 m) a zq).2.1 nu2).1 10 = nI (pord (sg M.2.2.2.1 m) a zq).2.1 from rfl]
        refine R_iconst (pc := 30) (v := 1) dX10_faultAt_30 (by decide) ?_
        refine R_iadd (pc := 31) dX10_faultAt_31 ?_
        rw [nI_1]
        refine P_X10_165 (pc := 32) dX10_faultAt_32 (by assumption) (fun h1 e1 f1 => ?_)
        have q1 := mstep_o q6 e1
        have hM1 := mAt q1
        have mo1 := hM1.o
        have ms1 := hM1.s
        have mb1 := hM1.b
        have mt1 := hM1.t
        have mn1 := hM1.n
        have mc1 := hM1.c
        refine R_goto (pc := 35) 5 dX10_faultAt_35 (by decide) ?_
        have hne : ¬ (pord (sg M.2.2.2.1 m) a zq).2.1 = m := fun z => c_20 (by rw [z])
        have h59 := hok.2.resolve_left hne
        have hlt := (hgo hok.1).1
        rw [pfault_s, if_pos hok.1, if_neg (show ¬ m ≤ (pord (sg M.2.2.2.1 m) a zq).2.1 by omega), if_pos h59, pfault_q _ _ _ _ _ zq]
        exact ih ((pord (sg M.2.2.2.1 m) a zq).2.1 + 1) nu2 _ (by omega) (by omega) (by rw [q1, oM_f])
      · skip
        refine R_iconst (pc := 23) (v := (-1)) dX10_faultAt_23 (by decide) ?_
        refine R_iret (pc := 24) rfl rfl dX10_faultAt_24 ?_
        have he : (pord (sg M.2.2.2.1 m) a zq).2.1 = m := (nI_eq (by omega) (by omega)).mp c_20
        rw [pfault_s, if_pos hok.1, if_pos (by omega)]
        exact ⟨rfl, _, _, q6⟩

set_option maxHeartbeats 4000000 in
set_option maxRecDepth 100000 in
theorem c_X10_faultAt (hM : MAt h u M) {m : Nat} (hm : m ≤ 100) (hml : M.1 4 = nI m)  : Spec l D cA N0 m_X10_faultAt 3 0 0 [.ref u] h (fun r h' => r = some (.int (pfault (sg M.2.2.2.1 m) m 101 0 zq).1) ∧ ∃ b nu2, h' = mput h u (oM M b nu2)) := by
  refine Spec.of (L := [some (.ref u)]) (by decide) rfl (Nat.le_of_ble_eq_true rfl) ?_
  have q0 : h = mput h u M := (mput_self hM).symm
  have mo0 := hM.o
  have ms0 := hM.s
  have mb0 := hM.b
  have mt0 := hM.t
  have mn0 := hM.n
  have mc0 := hM.c
  refine R_aload_n0 (pc := 0) dX10_faultAt_0 ?_
  refine R_iconst (pc := 1) (v := 0) dX10_faultAt_1 (by decide) ?_
  refine P_X10_165 (pc := 2) dX10_faultAt_2 (by assumption) (fun h1 e1 f1 => ?_)
  have q1 := mstep_o q0 e1
  have hM1 := mAt q1
  have mo1 := hM1.o
  have ms1 := hM1.s
  have mb1 := hM1.b
  have mt1 := hM1.t
  have mn1 := hM1.n
  have mc1 := hM1.c
  refine L_X10_faultAt (M := M) hm hml 101 0 M.2.2.2.2.1 _ (Nat.zero_le _) (by omega) (by rw [q1]; rfl)

set_option maxHeartbeats 4000000 in
set_option maxRecDepth 100000 in
theorem L_X10_letterAtBegin {m : Nat} (hm : m ≤ 100) (hml : M.1 4 = nI m) {a b : Nat} (hb : b ≤ m) {nu : Nat → Int32} {h1 : AH} (q1 : h1 = mput h u (oM M b nu)) (hla : plow ((sg M.2.2.2.1 m) a)) (hno : ∀ j, a < j → j < b → ¬ plow ((sg M.2.2.2.1 m) j)) (hlv : ∀ j, j < b → z_let M.2.2.2.1 m j = (sg M.2.2.2.1 m) j) : ∀ r : Nat, a + r < b → RunM l D cA N0 m_X10_letterAtBegin 1 0 0 (fun r h' => r = some (.int ((sg M.2.2.2.1 m) a)) ∧ h' = h1) h1 0 0 7 [some (.ref u), some (.int (nI (a + r)))] [] := by
  intro r
  induction r with
  | zero =>
    intro hr
    have hM1 := mAt q1
    have mo1 := hM1.o
    have ms1 := hM1.s
    have mb1 := hM1.b
    have mt1 := hM1.t
    have mn1 := hM1.n
    have mc1 := hM1.c
    rw [Nat.add_zero]
    refine R_aload_n0 (pc := 7) dX10_letterAtBegin_7 ?_
    refine R_iload_n1 (pc := 8) dX10_letterAtBegin_8 ?_
    refine R_callV1 (pc := 9) (T := TX10) cal_X10_letterAt kw1074 kw1076 kw48 dX10_letterAtBegin_9 (c_X10_letterAt (a := a) hM1 hm (show (oM M b nu).1 4 = nI m from hml) (by omega)) (by decide) (Nat.le_of_ble_eq_true rfl) (ci := 8) rfl (by assumption) ?_
    rintro _ _ ⟨rfl, rfl⟩
    refine R_i2l (pc := 12) dX10_letterAtBegin_12 ?_
    refine R_ldc2 (pc := 13) dX10_letterAtBegin_13 kw1091 ?_
    refine R_ldc2 (pc := 16) dX10_letterAtBegin_16 kw1092 ?_
    refine R_callS3 (pc := 19) cal_X10_in kw892 kw893 dX10_letterAtBegin_19 (c_X10_in rfl (lo := 97) (by decide) (hi := 122) (by decide)) (by decide) (Nat.le_of_ble_eq_true rfl) ?_
    rintro _ _ ⟨rfl, rfl⟩
    refine R_ifb_ne (pc := 22) 31 dX10_letterAtBegin_22 (by decide) (fun c_22 => ?_) (fun c_22 => ?_)
    · skip
      have hlw : plow (sg M.2.2.2.1 m a) := by rw [← hlv a (by omega)]; exact c_22
      refine R_aload_n0 (pc := 31) dX10_letterAtBegin_31 ?_
      refine R_iload_n1 (pc := 32) dX10_letterAtBegin_32 ?_
      refine R_callV1 (pc := 33) (T := TX10) cal_X10_letterAt kw1074 kw1076 kw48 dX10_letterAtBegin_33 (c_X10_letterAt (a := a) hM1 hm (show (oM M b nu).1 4 = nI m from hml) (by omega)) (by decide) (Nat.le_of_ble_eq_true rfl) (ci := 8) rfl (by assumption) ?_
      rintro _ _ ⟨rfl, rfl⟩
      refine R_iret (pc := 36) rfl rfl dX10_letterAtBegin_36 ?_
      exact ⟨congrArg (fun z => some (Value.int z)) (hlv a (by omega)), rfl⟩
    · skip
      have hlw : ¬ plow (sg M.2.2.2.1 m a) := by rw [← hlv a (by omega)]; exact c_22
      refine R_iinc1 (pc := 25) dX10_letterAtBegin_25 rfl (by decide) ?_
      refine R_goto (pc := 28) 7 dX10_letterAtBegin_28 (by decide) ?_
      exact absurd hla hlw
  | succ r ih =>
    intro hr
    have hM1 := mAt q1
    have mo1 := hM1.o
    have ms1 := hM1.s
    have mb1 := hM1.b
    have mt1 := hM1.t
    have mn1 := hM1.n
    have mc1 := hM1.c
    refine R_aload_n0 (pc := 7) dX10_letterAtBegin_7 ?_
    refine R_iload_n1 (pc := 8) dX10_letterAtBegin_8 ?_
    refine R_callV1 (pc := 9) (T := TX10) cal_X10_letterAt kw1074 kw1076 kw48 dX10_letterAtBegin_9 (c_X10_letterAt (a := a + (r + 1)) hM1 hm (show (oM M b nu).1 4 = nI m from hml) (by omega)) (by decide) (Nat.le_of_ble_eq_true rfl) (ci := 8) rfl (by assumption) ?_
    rintro _ _ ⟨rfl, rfl⟩
    refine R_i2l (pc := 12) dX10_letterAtBegin_12 ?_
    refine R_ldc2 (pc := 13) dX10_letterAtBegin_13 kw1091 ?_
    refine R_ldc2 (pc := 16) dX10_letterAtBegin_16 kw1092 ?_
    refine R_callS3 (pc := 19) cal_X10_in kw892 kw893 dX10_letterAtBegin_19 (c_X10_in rfl (lo := 97) (by decide) (hi := 122) (by decide)) (by decide) (Nat.le_of_ble_eq_true rfl) ?_
    rintro _ _ ⟨rfl, rfl⟩
    refine R_ifb_ne (pc := 22) 31 dX10_letterAtBegin_22 (by decide) (fun c_22 => ?_) (fun c_22 => ?_)
    · skip
      have hlw : plow (sg M.2.2.2.1 m (a + (r + 1))) := by rw [← hlv (a + (r + 1)) (by omega)]; exact c_22
      refine R_aload_n0 (pc := 31) dX10_letterAtBegin_31 ?_
      refine R_iload_n1 (pc := 32) dX10_letterAtBegin_32 ?_
      refine R_callV1 (pc := 33) (T := TX10) cal_X10_letterAt kw1074 kw1076 kw48 dX10_letterAtBegin_33 (c_X10_letterAt (a := a + (r + 1)) hM1 hm (show (oM M b nu).1 4 = nI m from hml) (by omega)) (by decide) (Nat.le_of_ble_eq_true rfl) (ci := 8) rfl (by assumption) ?_
      rintro _ _ ⟨rfl, rfl⟩
      refine R_iret (pc := 36) rfl rfl dX10_letterAtBegin_36 ?_
      exact absurd hlw (hno (a + (r + 1)) (by omega) (by omega))
    · skip
      have hlw : ¬ plow (sg M.2.2.2.1 m (a + (r + 1))) := by rw [← hlv (a + (r + 1)) (by omega)]; exact c_22
      refine R_iinc1 (pc := 25) dX10_letterAtBegin_25 rfl (by decide) ?_
      refine R_goto (pc := 28) 7 dX10_letterAtBegin_28 (by decide) ?_
      refine Run.cast (ih (by omega)) rfl rfl rfl rfl ?_ rfl
      rw [← Nat.add_assoc, nI_m]

set_option maxHeartbeats 4000000 in
set_option maxRecDepth 100000 in
theorem c_X10_letterAtBegin {m : Nat} (hm : m ≤ 100) (hml : M.1 4 = nI m) {a b : Nat} (hb : b ≤ m) (hab : a < b) {nu : Nat → Int32} {h1 : AH} (q1 : h1 = mput h u (oM M b nu)) (hla : plow ((sg M.2.2.2.1 m) a)) (hno : ∀ j, a < j → j < b → ¬ plow ((sg M.2.2.2.1 m) j)) : Spec l D cA N0 m_X10_letterAtBegin 1 0 0 [.ref u] h1 (fun r h' => r = some (.int ((sg M.2.2.2.1 m) a)) ∧ h' = h1) := by
  refine Spec.of (L := [some (.ref u), none]) (by decide) rfl (Nat.le_of_ble_eq_true rfl) ?_
  have hM1 := mAt q1
  have mo1 := hM1.o
  have ms1 := hM1.s
  have mb1 := hM1.b
  have mt1 := hM1.t
  have mn1 := hM1.n
  have mc1 := hM1.c
  refine R_aload_n0 (pc := 0) dX10_letterAtBegin_0 ?_
  refine G_X10_165 (pc := 1) dX10_letterAtBegin_1 (by assumption) ?_
  rw [show (oM M b nu).1 10 = nI b from rfl]
  refine R_iconst (pc := 4) (v := 1) dX10_letterAtBegin_4 (by decide) ?_
  refine R_isub (pc := 5) dX10_letterAtBegin_5 ?_
  refine R_istore_n1 (pc := 6) dX10_letterAtBegin_6 rfl (by decide) ?_
  have hlv : ∀ j, j < b → z_let M.2.2.2.1 m j = (sg M.2.2.2.1 m) j := fun j hj => by rw [z_let, sg, if_pos (by omega), if_pos (by omega)]
  refine Run.cast (L_X10_letterAtBegin hm hml hb q1 hla hno hlv (b - 1 - a) (by omega)) rfl rfl rfl rfl ?_ rfl
  rw [show a + (b - 1 - a) = b - 1 by omega, show nI b - 1 = nI (b - 1) from by rw [show b = b - 1 + 1 by omega, nI_pred]; rfl]

end LV38
