/-! THE GAME's further reading methods -/
theorem sw_ne {x v : Int32} {lo hi : Int} (h : x.toInt < lo ∨ hi < x.toInt) (h1 : lo ≤ v.toInt ∧ v.toInt ≤ hi) : ¬ x = v := by
  rintro rfl
  omega
theorem k_al_s (G : Gm) (d : Int32) (v n : Nat) (q x : Int32) : k_al G d v (n + 1) q x = if k_next x d = -9 ∨ k_isl G (k_next x d) = true then 0 else match k_on G (k_next x d) with
    | some j => if shF G j 0 = shF G v 0 then q else 0
    | none => k_al G d v n (q + Int32.ofInt 1) (k_next x d) := rfl
/-- by how many cards a card helps, and the best card -/
def k_help (G : Gm) (u : Nat) (c y steps : Int32) : Int32 := kf (fun a j => if steps ≤ k_steps (shF G u) (k_dir G (c + nI j)) (k_str (c + nI j)) ∧ k_hold (cF G (cix y) 0) (nI j) = true then a + Int32.ofInt 1 else a) 0 0 6
def kq (f : Nat → Int32) : Int32 → Int32 → Nat → Nat → Int32 × Int32
  | b, m, _, 0 => (b, m)
  | b, m, i, n + 1 => if f i ≤ m then kq f b m (i + 1) n else kq f (nI i) (f i) (i + 1) n
theorem kq_s (f : Nat → Int32) (b m : Int32) (i n : Nat) : kq f b m i (n + 1) = if f i ≤ m then kq f b m (i + 1) n else kq f (nI i) (f i) (i + 1) n := rfl
def k_cf (G : Gm) (u : Nat) (steps : Int32) (j : Nat) : Int32 := if k_hold (cF G (cix (shF G u 1)) 0) (nI j) = true then k_help G u (nI j) (1 - shF G u 1) steps else 0
def k_pick (r : Int32 × Int32) (w : Int32) : Int32 := if w = 0 ∨ r.1 = -9 then r.1 else r.2
def k_card (G : Gm) (u : Nat) (steps w : Int32) : Int32 := if 0 < steps then k_pick (kq (k_cf G u steps) (-9) 0 0 6) w else -9
def k_mendable (F : Nat → Int32) (w t : Int32) : Int32 := if w = 0 then kmin t (kmin (F 6 / 4) (20 - F 4)) else if w = 1 then (if F 5 < 8 ∧ 2 ≤ t then 1 else 0) else (if F 7 < 9 ∧ 3 ≤ t then 1 else 0)
def k_tally (G : Gm) (w : Int32) : Int32 := if w = 0 then G.1 0 else if w = 1 then (if G.1 1 = 0 then 0 else 1) else if w = 2 then G.1 2 else if w = 3 then G.1 3 else if w = 4 then k_told G else if w = 5 then G.1 4 else if w = 6 then k_fleet G 0 ||| k_fleet G 1 else if w = 7 then k_isls G else if w = 8 then G.1 5 else -1
def k_tcap (G : Gm) (c w : Int32) : Int32 := if w = 0 then cF G (cix c) 0 else if w = 1 then cF G (cix c) 1 else if w = 2 then cF G (cix c) 2 else if w = 3 then k_fleet G c else if w = 4 then k_hulls G c else -1
def k_tship (G : Gm) (u : Nat) (w : Int32) : Int32 := if w = 0 then shF G u 1 else if w = 1 then (if 0 < shF G u 4 then shF G u 2 else -9) else if w = 2 then shF G u 3 else if w = 3 then shF G u 4 else if w = 4 then shF G u 5 else if w = 5 then shF G u 6 else if w = 6 then shF G u 7 else if w = 7 then shF G u 8 else if w = 8 then k_now G u else if w = 9 then bI (G.1 0 < shF G u 9) + (if G.1 0 < shF G u 10 then 2 else 0) else if w = 10 then shF G u 11 else -1
section LV7
variable {l : Launch} {D : va_G} {cA : Nat → ClassId} {N0 : Nat} {h : AH} {g : Nat} {G : Gm}
set_option maxHeartbeats 4000000 in
set_option maxRecDepth 100000 in
theorem L_X1_distanceAlong (hG : GmAt h g G) {v : Nat} (hv : v < 8) {d fx : Int32} : ∀ (n i : Nat), i + n = 4 → 1 ≤ i → ∀ (x : Int32), RunM l D cA N0 m_X1_distanceAlong 2 0 0 (fun r h' => r = some (.int (k_al G d v n (nI i) x)) ∧ h' = h) h 0 0 6 [some (.ref g), some (.int fx), some (.int d), some (.ref (sad g v)), some (.int x), some (.int (nI i)), none] [] := by
  intro n
  induction n with
  | zero =>
    intro i hin hinv x
    have hie : i = 4 := by omega
    subst hie
    have go := hG.o0
    have gc0 := hG.c0
    have gc1 := hG.c1
    have gi := hG.is
    have gs := hG.sa
    have gv := hG.sh hv
    refine R_iload5 (pc := 6) dX1_distanceAlong_6 ?_
    refine R_iconst (pc := 8) (v := 3) dX1_distanceAlong_8 (by decide) ?_
    refine R_icmp_gt (pc := 9) 76 dX1_distanceAlong_9 (by decide) (fun c_9 => ?_) (fun c_9 => absurd (by decide) c_9)
    refine R_iconst (pc := 76) (v := 0) dX1_distanceAlong_76 (by decide) ?_
    refine R_iret (pc := 77) rfl rfl dX1_distanceAlong_77 ?_
    exact ⟨rfl, rfl⟩
  | succ n ih =>
    intro i hin hinv x
    have hlt : i < 4 := by omega
    have go := hG.o0
    have gc0 := hG.c0
    have gc1 := hG.c1
    have gi := hG.is
    have gs := hG.sa
    have gv := hG.sh hv
    refine R_iload5 (pc := 6) dX1_distanceAlong_6 ?_
    refine R_iconst (pc := 8) (v := 3) dX1_distanceAlong_8 (by decide) ?_
    refine R_icmp_gt (pc := 9) 76 dX1_distanceAlong_9 (by decide) (fun c_9 => absurd c_9 (nI_nlt (show i ≤ 3 by omega) (by decide))) (fun c_9 => ?_)
    refine R_iload4 (pc := 12) dX1_distanceAlong_12 ?_
    refine R_iload_n2 (pc := 14) dX1_distanceAlong_14 ?_
    refine R_callS2 (pc := 15) cal_X2_next kw509 kw510 dX1_distanceAlong_15 c_X2_next (by decide) (Nat.le_of_ble_eq_true rfl) ?_
    rintro _ _ ⟨rfl, rfl⟩
    refine R_istore4 (pc := 18) dX1_distanceAlong_18 rfl (by decide) ?_
    refine R_iload4 (pc := 20) dX1_distanceAlong_20 ?_
    refine R_bipush (pc := 22) (v := (-9)) dX1_distanceAlong_22 (by decide) ?_
    refine R_icmp_eq (pc := 24) 36 dX1_distanceAlong_24 (by decide) (fun c_24 => ?_) (fun c_24 => ?_)
    · skip
      refine R_iconst (pc := 36) (v := 0) dX1_distanceAlong_36 (by decide) ?_
      refine R_iret (pc := 37) rfl rfl dX1_distanceAlong_37 ?_
      exact ⟨by rw [k_al_s, if_pos (Or.inl c_24)], rfl⟩
    · skip
      refine R_aload_n0 (pc := 27) dX1_distanceAlong_27 ?_
      refine R_iload4 (pc := 28) dX1_distanceAlong_28 ?_
      refine R_callV1 (pc := 30) (T := TX1) cal_X1_isIsland kw420 kw422 kw8 dX1_distanceAlong_30 (c_X1_isIsland (by assumption)) (by decide) (Nat.le_of_ble_eq_true rfl) (ci := 1) rfl (by assumption) ?_
      rintro _ _ ⟨rfl, rfl⟩
      refine R_ifb_eq (pc := 33) 38 dX1_distanceAlong_33 (by decide) (fun c_33 => ?_) (fun c_33 => ?_)
      · skip
        refine R_aload_n0 (pc := 38) dX1_distanceAlong_38 ?_
        refine R_iload4 (pc := 39) dX1_distanceAlong_39 ?_
        refine R_callV1 (pc := 41) (T := TX1) cal_X1_shipOn kw407 kw409 kw7 dX1_distanceAlong_41 (c_X1_shipOn (by assumption)) (by decide) (Nat.le_of_ble_eq_true rfl) (ci := 1) rfl (by assumption) ?_
        rintro _ _ ⟨⟨z41, hz41, rfl⟩, rfl⟩
        rcases k_on_cases _ _ with oz41 | ⟨o41, ol41, oh41, oz41⟩ <;> (rw [oz41] at hz41; subst hz41)
        · skip
          refine R_astoreN6 (pc := 44) dX1_distanceAlong_44 rfl (by decide) ?_
          refine R_aloadN6 (pc := 46) dX1_distanceAlong_46 ?_
          refine R_ifnullN (pc := 48) 70 dX1_distanceAlong_48 (by decide) ?_
          refine R_iinc5 (pc := 70) dX1_distanceAlong_70 rfl (by decide) ?_
          refine R_goto (pc := 73) 6 dX1_distanceAlong_73 (by decide) ?_
          rw [nI_s]
          refine R_weak (by repeat (first | exact trivial | refine ⟨rfl, ?_⟩ | refine ⟨trivial, ?_⟩)) (R_post (fun a h1 q1 => ?_) (ih (i + 1) (by omega) (by omega) _))
          rw [k_al_s, if_neg (fun z => z.elim c_24 c_33), oz41]
          simp only [nI_s]
          exact q1
        · skip
          have og41 := hG.sh ol41
          refine R_astore6 (pc := 44) dX1_distanceAlong_44 rfl (by decide) ?_
          refine R_aload6 (pc := 46) dX1_distanceAlong_46 ?_
          refine R_ifnull (pc := 48) dX1_distanceAlong_48 ?_
          refine R_aload6 (pc := 51) dX1_distanceAlong_51 ?_
          refine G_X1_94 (pc := 53) dX1_distanceAlong_53 (by assumption) ?_
          refine R_aload_n3 (pc := 56) dX1_distanceAlong_56 ?_
          refine G_X1_94 (pc := 57) dX1_distanceAlong_57 (by assumption) ?_
          refine R_icmp_ne (pc := 60) 68 dX1_distanceAlong_60 (by decide) (fun c_60 => ?_) (fun c_60 => ?_)
          · skip
            refine R_iconst (pc := 68) (v := 0) dX1_distanceAlong_68 (by decide) ?_
            refine R_iret (pc := 69) rfl rfl dX1_distanceAlong_69 ?_
            exact ⟨by rw [k_al_s, if_neg (fun z => z.elim c_24 c_33), oz41]; simp only [if_neg c_60], rfl⟩
          · skip
            refine R_iload5 (pc := 63) dX1_distanceAlong_63 ?_
            refine R_goto (pc := 65) 69 dX1_distanceAlong_65 (by decide) ?_
            refine R_iret (pc := 69) rfl rfl dX1_distanceAlong_69 ?_
            exact ⟨by rw [k_al_s, if_neg (fun z => z.elim c_24 c_33), oz41]; simp only [if_pos c_60], rfl⟩
      · skip
        refine R_iconst (pc := 36) (v := 0) dX1_distanceAlong_36 (by decide) ?_
        refine R_iret (pc := 37) rfl rfl dX1_distanceAlong_37 ?_
        exact ⟨by rw [k_al_s, if_pos (Or.inr c_33)], rfl⟩

set_option maxHeartbeats 4000000 in
set_option maxRecDepth 100000 in
theorem c_X1_distanceAlong (hG : GmAt h g G) {v : Nat} (hv : v < 8) {x d : Int32} : Spec l D cA N0 m_X1_distanceAlong 2 0 0 [.ref g, .int x, .int d, .ref (sad g v)] h (fun r h' => r = some (.int (k_along G x d v)) ∧ h' = h) := by
  refine Spec.of (L := [some (.ref g), some (.int x), some (.int d), some (.ref (sad g v)), none, none, none]) (by decide) rfl (Nat.le_of_ble_eq_true rfl) ?_
  have go := hG.o0
  have gc0 := hG.c0
  have gc1 := hG.c1
  have gi := hG.is
  have gs := hG.sa
  refine R_iload_n1 (pc := 0) dX1_distanceAlong_0 ?_
  refine R_istore4 (pc := 1) dX1_distanceAlong_1 rfl (by decide) ?_
  refine R_iconst (pc := 3) (v := 1) dX1_distanceAlong_3 (by decide) ?_
  refine R_istore5 (pc := 4) dX1_distanceAlong_4 rfl (by decide) ?_
  exact L_X1_distanceAlong hG hv 3 1 rfl (Nat.le_refl 1) x

set_option maxHeartbeats 4000000 in
set_option maxRecDepth 100000 in
theorem c_X1_shotLength (hG : GmAt h g G) {u v : Nat} (hu : u < 8) (hv : v < 8) {s : Int32} : Spec l D cA N0 m_X1_shotLength 3 0 0 [.ref g, .ref (sad g u), .int s, .ref (sad g v)] h (fun r h' => r = some (.int (k_shot G u s v)) ∧ h' = h) := by
  refine Spec.of (L := [some (.ref g), some (.ref (sad g u)), some (.int s), some (.ref (sad g v)), none, none]) (by decide) rfl (Nat.le_of_ble_eq_true rfl) ?_
  have go := hG.o0
  have gc0 := hG.c0
  have gc1 := hG.c1
  have gi := hG.is
  have gs := hG.sa
  have gu := hG.sh hu
  have gv := hG.sh hv
  refine R_aload_n1 (pc := 0) dX1_shotLength_0 ?_
  refine R_callV0 (pc := 1) (T := TX7) cal_X7_floats kw369 kw370 kw371 dX1_shotLength_1 (c_X7_floats (by assumption)) (by decide) (Nat.le_of_ble_eq_true rfl) (ci := 5) rfl (by assumption) ?_
  rintro _ _ ⟨rfl, rfl⟩
  refine R_ifb_eq (pc := 4) 18 dX1_shotLength_4 (by decide) (fun c_4 => ?_) (fun c_4 => ?_)
  · skip
    refine R_iconst (pc := 18) (v := 0) dX1_shotLength_18 (by decide) ?_
    refine R_iret (pc := 19) rfl rfl dX1_shotLength_19 ?_
    exact ⟨by simp only [k_shot, c_4, reduceCtorEq, if_true, if_false, reduceIte, and_true, true_and, and_false, false_and, and_self, or_true, true_or, or_false, false_or, or_self, not_true, not_false_iff] <;> rfl, rfl⟩
  · skip
    refine R_aload_n1 (pc := 7) dX1_shotLength_7 ?_
    refine G_X1_105 (pc := 8) dX1_shotLength_8 (by assumption) ?_
    refine R_aload_n3 (pc := 11) dX1_shotLength_11 ?_
    refine G_X1_105 (pc := 12) dX1_shotLength_12 (by assumption) ?_
    refine R_icmp_ne (pc := 15) 20 dX1_shotLength_15 (by decide) (fun c_15 => ?_) (fun c_15 => ?_)
    · skip
      refine R_aload_n1 (pc := 20) dX1_shotLength_20 ?_
      refine G_X1_108 (pc := 21) dX1_shotLength_21 (by assumption) ?_
      refine R_iload_n2 (pc := 24) dX1_shotLength_24 ?_
      refine R_if_ne (pc := 25) 32 dX1_shotLength_25 (by decide) (fun c_25 => ?_) (fun c_25 => ?_)
      · skip
        refine R_iconst (pc := 32) (v := 1) dX1_shotLength_32 (by decide) ?_
        refine R_iadd (pc := 33) dX1_shotLength_33 ?_
        refine R_istore4 (pc := 34) dX1_shotLength_34 rfl (by decide) ?_
        refine R_aload_n0 (pc := 36) dX1_shotLength_36 ?_
        refine R_aload_n1 (pc := 37) dX1_shotLength_37 ?_
        refine G_X1_73 (pc := 38) dX1_shotLength_38 (by assumption) ?_
        refine R_iload4 (pc := 41) dX1_shotLength_41 ?_
        refine R_bipush (pc := 43) (v := 6) dX1_shotLength_43 (by decide) ?_
        refine R_irem (pc := 45) dX1_shotLength_45 (by decide) ?_
        refine R_aload_n3 (pc := 46) dX1_shotLength_46 ?_
        refine R_callV3 (pc := 47) (T := TX1) cal_X1_distanceAlong kw505 kw507 kw13 dX1_shotLength_47 (c_X1_distanceAlong (by assumption) (by assumption)) (by decide) (Nat.le_of_ble_eq_true rfl) (ci := 1) rfl (by assumption) ?_
        rintro _ _ ⟨rfl, rfl⟩
        refine R_istore5 (pc := 50) dX1_shotLength_50 rfl (by decide) ?_
        refine R_iload5 (pc := 52) dX1_shotLength_52 ?_
        refine R_if_eq (pc := 54) 60 dX1_shotLength_54 (by decide) (fun c_54 => ?_) (fun c_54 => ?_)
        · skip
          refine R_aload_n0 (pc := 60) dX1_shotLength_60 ?_
          refine R_aload_n1 (pc := 61) dX1_shotLength_61 ?_
          refine G_X1_73 (pc := 62) dX1_shotLength_62 (by assumption) ?_
          refine R_iload4 (pc := 65) dX1_shotLength_65 ?_
          refine R_iconst (pc := 67) (v := 1) dX1_shotLength_67 (by decide) ?_
          refine R_iadd (pc := 68) dX1_shotLength_68 ?_
          refine R_bipush (pc := 69) (v := 6) dX1_shotLength_69 (by decide) ?_
          refine R_irem (pc := 71) dX1_shotLength_71 (by decide) ?_
          refine R_aload_n3 (pc := 72) dX1_shotLength_72 ?_
          refine R_callV3 (pc := 73) (T := TX1) cal_X1_distanceAlong kw505 kw507 kw13 dX1_shotLength_73 (c_X1_distanceAlong (by assumption) (by assumption)) (by decide) (Nat.le_of_ble_eq_true rfl) (ci := 1) rfl (by assumption) ?_
          rintro _ _ ⟨rfl, rfl⟩
          refine R_iret (pc := 76) rfl rfl dX1_shotLength_76 ?_
          exact ⟨by simp only [k_shot, c_4, c_15, c_25, c_54, reduceCtorEq, if_true, if_false, reduceIte, and_true, true_and, and_false, false_and, and_self, or_true, true_or, or_false, false_or, or_self, not_true, not_false_iff] <;> rfl, rfl⟩
        · skip
          refine R_iload5 (pc := 57) dX1_shotLength_57 ?_
          refine R_iret (pc := 59) rfl rfl dX1_shotLength_59 ?_
          exact ⟨by simp only [k_shot, c_4, c_15, c_25, c_54, reduceCtorEq, if_true, if_false, reduceIte, and_true, true_and, and_false, false_and, and_self, or_true, true_or, or_false, false_or, or_self, not_true, not_false_iff] <;> rfl, rfl⟩
      · skip
        refine R_iconst (pc := 28) (v := 4) dX1_shotLength_28 (by decide) ?_
        refine R_goto (pc := 29) 33 dX1_shotLength_29 (by decide) ?_
        refine R_iadd (pc := 33) dX1_shotLength_33 ?_
        refine R_istore4 (pc := 34) dX1_shotLength_34 rfl (by decide) ?_
        refine R_aload_n0 (pc := 36) dX1_shotLength_36 ?_
        refine R_aload_n1 (pc := 37) dX1_shotLength_37 ?_
        refine G_X1_73 (pc := 38) dX1_shotLength_38 (by assumption) ?_
        refine R_iload4 (pc := 41) dX1_shotLength_41 ?_
        refine R_bipush (pc := 43) (v := 6) dX1_shotLength_43 (by decide) ?_
        refine R_irem (pc := 45) dX1_shotLength_45 (by decide) ?_
        refine R_aload_n3 (pc := 46) dX1_shotLength_46 ?_
        refine R_callV3 (pc := 47) (T := TX1) cal_X1_distanceAlong kw505 kw507 kw13 dX1_shotLength_47 (c_X1_distanceAlong (by assumption) (by assumption)) (by decide) (Nat.le_of_ble_eq_true rfl) (ci := 1) rfl (by assumption) ?_
        rintro _ _ ⟨rfl, rfl⟩
        refine R_istore5 (pc := 50) dX1_shotLength_50 rfl (by decide) ?_
        refine R_iload5 (pc := 52) dX1_shotLength_52 ?_
        refine R_if_eq (pc := 54) 60 dX1_shotLength_54 (by decide) (fun c_54 => ?_) (fun c_54 => ?_)
        · skip
          refine R_aload_n0 (pc := 60) dX1_shotLength_60 ?_
          refine R_aload_n1 (pc := 61) dX1_shotLength_61 ?_
          refine G_X1_73 (pc := 62) dX1_shotLength_62 (by assumption) ?_
          refine R_iload4 (pc := 65) dX1_shotLength_65 ?_
          refine R_iconst (pc := 67) (v := 1) dX1_shotLength_67 (by decide) ?_
          refine R_iadd (pc := 68) dX1_shotLength_68 ?_
          refine R_bipush (pc := 69) (v := 6) dX1_shotLength_69 (by decide) ?_
          refine R_irem (pc := 71) dX1_shotLength_71 (by decide) ?_
          refine R_aload_n3 (pc := 72) dX1_shotLength_72 ?_
          refine R_callV3 (pc := 73) (T := TX1) cal_X1_distanceAlong kw505 kw507 kw13 dX1_shotLength_73 (c_X1_distanceAlong (by assumption) (by assumption)) (by decide) (Nat.le_of_ble_eq_true rfl) (ci := 1) rfl (by assumption) ?_
          rintro _ _ ⟨rfl, rfl⟩
          refine R_iret (pc := 76) rfl rfl dX1_shotLength_76 ?_
          exact ⟨by simp only [k_shot, c_4, c_15, c_25, c_54, reduceCtorEq, if_true, if_false, reduceIte, and_true, true_and, and_false, false_and, and_self, or_true, true_or, or_false, false_or, or_self, not_true, not_false_iff] <;> rfl, rfl⟩
        · skip
          refine R_iload5 (pc := 57) dX1_shotLength_57 ?_
          refine R_iret (pc := 59) rfl rfl dX1_shotLength_59 ?_
          exact ⟨by simp only [k_shot, c_4, c_15, c_25, c_54, reduceCtorEq, if_true, if_false, reduceIte, and_true, true_and, and_false, false_and, and_self, or_true, true_or, or_false, false_or, or_self, not_true, not_false_iff] <;> rfl, rfl⟩
    · skip
      refine R_iconst (pc := 18) (v := 0) dX1_shotLength_18 (by decide) ?_
      refine R_iret (pc := 19) rfl rfl dX1_shotLength_19 ?_
      exact ⟨by simp only [k_shot, c_4, c_15, reduceCtorEq, if_true, if_false, reduceIte, and_true, true_and, and_false, false_and, and_self, or_true, true_or, or_false, false_or, or_self, not_true, not_false_iff] <;> rfl, rfl⟩

set_option maxHeartbeats 4000000 in
set_option maxRecDepth 100000 in
theorem L_X1_targetSet (hG : GmAt h g G) {u : Nat} (hu : u < 8) {s : Int32} : ∀ (n i : Nat), i + n = 8 → True → ∀ (acc : Int32), RunM l D cA N0 m_X1_targetSet 4 0 0 (fun r h' => r = some (.int (kf (fun a j => if k_shot G u s j = 0 then a else a ||| 1 <<< (shF G j 0 &&& 31)) acc i n)) ∧ h' = h) h 0 0 16 [some (.ref g), some (.ref (sad g u)), some (.int s), some (.int acc), some (.ref (gA g 9)), some (.int 8), some (.int (nI i)), none] [] := by
  intro n
  induction n with
  | zero =>
    intro i hin hinv acc
    have hie : i = 8 := by omega
    subst hie
    have go := hG.o0
    have gc0 := hG.c0
    have gc1 := hG.c1
    have gi := hG.is
    have gs := hG.sa
    refine R_iload6 (pc := 16) dX1_targetSet_16 ?_
    refine R_iload5 (pc := 18) dX1_targetSet_18 ?_
    refine R_icmp_ge (pc := 20) 57 dX1_targetSet_20 (by decide) (fun c_20 => ?_) (fun c_20 => absurd (by decide) c_20)
    refine R_iload_n3 (pc := 57) dX1_targetSet_57 ?_
    refine R_iret (pc := 58) rfl rfl dX1_targetSet_58 ?_
    exact ⟨rfl, rfl⟩
  | succ n ih =>
    intro i hin hinv acc
    have hlt : i < 8 := by omega
    have go := hG.o0
    have gc0 := hG.c0
    have gc1 := hG.c1
    have gi := hG.is
    have gs := hG.sa
    refine R_iload6 (pc := 16) dX1_targetSet_16 ?_
    refine R_iload5 (pc := 18) dX1_targetSet_18 ?_
    refine R_icmp_ge (pc := 20) 57 dX1_targetSet_20 (by decide) (fun c_20 => absurd c_20 (nI_ge hlt (by decide))) (fun c_20 => ?_)
    refine R_aload4 (pc := 23) dX1_targetSet_23 ?_
    refine R_iload6 (pc := 25) dX1_targetSet_25 ?_
    refine R_ship (pc := 27) dX1_targetSet_27 (by assumption) (by assumption) ?_
    have fsi := hG.sh hlt
    refine R_astore7 (pc := 28) dX1_targetSet_28 rfl (by decide) ?_
    refine R_aload_n0 (pc := 30) dX1_targetSet_30 ?_
    refine R_aload_n1 (pc := 31) dX1_targetSet_31 ?_
    refine R_iload_n2 (pc := 32) dX1_targetSet_32 ?_
    refine R_aload7 (pc := 33) dX1_targetSet_33 ?_
    refine R_callV3 (pc := 35) (T := TX1) cal_X1_shotLength kw501 kw502 kw503 dX1_targetSet_35 (c_X1_shotLength (by assumption) (by assumption) (by assumption)) (by decide) (Nat.le_of_ble_eq_true rfl) (ci := 1) rfl (by assumption) ?_
    rintro _ _ ⟨rfl, rfl⟩
    refine R_if_eq (pc := 38) 51 dX1_targetSet_38 (by decide) (fun c_38 => ?_) (fun c_38 => ?_)
    · skip
      refine R_iinc6 (pc := 51) dX1_targetSet_51 rfl (by decide) ?_
      refine R_goto (pc := 54) 16 dX1_targetSet_54 (by decide) ?_
      rw [nI_s]
      refine R_weak (by repeat (first | exact trivial | refine ⟨rfl, ?_⟩ | refine ⟨trivial, ?_⟩)) (R_post (fun a h1 q1 => ?_) (ih (i + 1) (by omega) trivial _))
      rw [kf_s]
      simp only [if_pos c_38]
      exact q1
    · skip
      refine R_iload_n3 (pc := 41) dX1_targetSet_41 ?_
      refine R_iconst (pc := 42) (v := 1) dX1_targetSet_42 (by decide) ?_
      refine R_aload7 (pc := 43) dX1_targetSet_43 ?_
      refine G_X1_94 (pc := 45) dX1_targetSet_45 (by assumption) ?_
      refine R_ishl (pc := 48) dX1_targetSet_48 ?_
      refine R_ior (pc := 49) dX1_targetSet_49 ?_
      refine R_istore_n3 (pc := 50) dX1_targetSet_50 rfl (by decide) ?_
      refine R_iinc6 (pc := 51) dX1_targetSet_51 rfl (by decide) ?_
      refine R_goto (pc := 54) 16 dX1_targetSet_54 (by decide) ?_
      rw [nI_s]
      refine R_weak (by repeat (first | exact trivial | refine ⟨rfl, ?_⟩ | refine ⟨trivial, ?_⟩)) (R_post (fun a h1 q1 => ?_) (ih (i + 1) (by omega) trivial _))
      rw [kf_s]
      simp only [if_neg c_38]
      exact q1

set_option maxHeartbeats 4000000 in
set_option maxRecDepth 100000 in
theorem c_X1_targetSet (hG : GmAt h g G) {u : Nat} (hu : u < 8) {s : Int32} : Spec l D cA N0 m_X1_targetSet 4 0 0 [.ref g, .ref (sad g u), .int s] h (fun r h' => r = some (.int (k_targets G u s)) ∧ h' = h) := by
  refine Spec.of (L := [some (.ref g), some (.ref (sad g u)), some (.int s), none, none, none, none, none]) (by decide) rfl (Nat.le_of_ble_eq_true rfl) ?_
  have go := hG.o0
  have gc0 := hG.c0
  have gc1 := hG.c1
  have gi := hG.is
  have gs := hG.sa
  refine R_iconst (pc := 0) (v := 0) dX1_targetSet_0 (by decide) ?_
  refine R_istore_n3 (pc := 1) dX1_targetSet_1 rfl (by decide) ?_
  refine R_aload_n0 (pc := 2) dX1_targetSet_2 ?_
  refine G_X1_33 (pc := 3) dX1_targetSet_3 (by assumption) ?_
  refine R_astore4 (pc := 6) dX1_targetSet_6 rfl (by decide) ?_
  refine R_aload4 (pc := 8) dX1_targetSet_8 ?_
  refine R_alen (pc := 10) (v := 8) dX1_targetSet_10 (by assumption) (by decide) rfl ?_
  refine R_istore5 (pc := 11) dX1_targetSet_11 rfl (by decide) ?_
  refine R_iconst (pc := 13) (v := 0) dX1_targetSet_13 (by decide) ?_
  refine R_istore6 (pc := 14) dX1_targetSet_14 rfl (by decide) ?_
  exact L_X1_targetSet hG hu 8 0 rfl trivial 0

set_option maxHeartbeats 4000000 in
set_option maxRecDepth 100000 in
theorem L_X1_threatSet (hG : GmAt h g G) {v : Nat} (hv : v < 8) : ∀ (n i : Nat), i + n = 8 → True → ∀ (acc : Int32), RunM l D cA N0 m_X1_threatSet 4 0 0 (fun r h' => r = some (.int (kf (fun a j => if k_shot G j 0 v = 0 ∧ k_shot G j 1 v = 0 then a else a ||| 1 <<< (shF G j 0 &&& 31)) acc i n)) ∧ h' = h) h 0 0 14 [some (.ref g), some (.ref (sad g v)), some (.int acc), some (.ref (gA g 9)), some (.int 8), some (.int (nI i)), none] [] := by
  intro n
  induction n with
  | zero =>
    intro i hin hinv acc
    have hie : i = 8 := by omega
    subst hie
    have go := hG.o0
    have gc0 := hG.c0
    have gc1 := hG.c1
    have gi := hG.is
    have gs := hG.sa
    refine R_iload5 (pc := 14) dX1_threatSet_14 ?_
    refine R_iload4 (pc := 16) dX1_threatSet_16 ?_
    refine R_icmp_ge (pc := 18) 65 dX1_threatSet_18 (by decide) (fun c_18 => ?_) (fun c_18 => absurd (by decide) c_18)
    refine R_iload_n2 (pc := 65) dX1_threatSet_65 ?_
    refine R_iret (pc := 66) rfl rfl dX1_threatSet_66 ?_
    exact ⟨rfl, rfl⟩
  | succ n ih =>
    intro i hin hinv acc
    have hlt : i < 8 := by omega
    have go := hG.o0
    have gc0 := hG.c0
    have gc1 := hG.c1
    have gi := hG.is
    have gs := hG.sa
    refine R_iload5 (pc := 14) dX1_threatSet_14 ?_
    refine R_iload4 (pc := 16) dX1_threatSet_16 ?_
    refine R_icmp_ge (pc := 18) 65 dX1_threatSet_18 (by decide) (fun c_18 => absurd c_18 (nI_ge hlt (by decide))) (fun c_18 => ?_)
    refine R_aload_n3 (pc := 21) dX1_threatSet_21 ?_
    refine R_iload5 (pc := 22) dX1_threatSet_22 ?_
    refine R_ship (pc := 24) dX1_threatSet_24 (by assumption) (by assumption) ?_
    have fsi := hG.sh hlt
    refine R_astore6 (pc := 25) dX1_threatSet_25 rfl (by decide) ?_
    refine R_aload_n0 (pc := 27) dX1_threatSet_27 ?_
    refine R_aload6 (pc := 28) dX1_threatSet_28 ?_
    refine R_iconst (pc := 30) (v := 0) dX1_threatSet_30 (by decide) ?_
    refine R_aload_n1 (pc := 31) dX1_threatSet_31 ?_
    refine R_callV3 (pc := 32) (T := TX1) cal_X1_shotLength kw501 kw502 kw503 dX1_threatSet_32 (c_X1_shotLength (by assumption) (by assumption) (by assumption)) (by decide) (Nat.le_of_ble_eq_true rfl) (ci := 1) rfl (by assumption) ?_
    rintro _ _ ⟨rfl, rfl⟩
    refine R_if_ne (pc := 35) 49 dX1_threatSet_35 (by decide) (fun c_35 => ?_) (fun c_35 => ?_)
    · skip
      refine R_iload_n2 (pc := 49) dX1_threatSet_49 ?_
      refine R_iconst (pc := 50) (v := 1) dX1_threatSet_50 (by decide) ?_
      refine R_aload6 (pc := 51) dX1_threatSet_51 ?_
      refine G_X1_94 (pc := 53) dX1_threatSet_53 (by assumption) ?_
      refine R_ishl (pc := 56) dX1_threatSet_56 ?_
      refine R_ior (pc := 57) dX1_threatSet_57 ?_
      refine R_istore_n2 (pc := 58) dX1_threatSet_58 rfl (by decide) ?_
      refine R_iinc5 (pc := 59) dX1_threatSet_59 rfl (by decide) ?_
      refine R_goto (pc := 62) 14 dX1_threatSet_62 (by decide) ?_
      rw [nI_s]
      refine R_weak (by repeat (first | exact trivial | refine ⟨rfl, ?_⟩ | refine ⟨trivial, ?_⟩)) (R_post (fun a h1 q1 => ?_) (ih (i + 1) (by omega) trivial _))
      rw [kf_s]
      simp only [c_35, reduceCtorEq, if_true, if_false, reduceIte, and_true, true_and, and_false, false_and, and_self, or_true, true_or, or_false, false_or, or_self, not_true, not_false_iff]
      exact q1
    · skip
      refine R_aload_n0 (pc := 38) dX1_threatSet_38 ?_
      refine R_aload6 (pc := 39) dX1_threatSet_39 ?_
      refine R_iconst (pc := 41) (v := 1) dX1_threatSet_41 (by decide) ?_
      refine R_aload_n1 (pc := 42) dX1_threatSet_42 ?_
      refine R_callV3 (pc := 43) (T := TX1) cal_X1_shotLength kw501 kw502 kw503 dX1_threatSet_43 (c_X1_shotLength (by assumption) (by assumption) (by assumption)) (by decide) (Nat.le_of_ble_eq_true rfl) (ci := 1) rfl (by assumption) ?_
      rintro _ _ ⟨rfl, rfl⟩
      refine R_if_eq (pc := 46) 59 dX1_threatSet_46 (by decide) (fun c_46 => ?_) (fun c_46 => ?_)
      · skip
        refine R_iinc5 (pc := 59) dX1_threatSet_59 rfl (by decide) ?_
        refine R_goto (pc := 62) 14 dX1_threatSet_62 (by decide) ?_
        rw [nI_s]
        refine R_weak (by repeat (first | exact trivial | refine ⟨rfl, ?_⟩ | refine ⟨trivial, ?_⟩)) (R_post (fun a h1 q1 => ?_) (ih (i + 1) (by omega) trivial _))
        rw [kf_s]
        simp only [c_35, c_46, reduceCtorEq, if_true, if_false, reduceIte, and_true, true_and, and_false, false_and, and_self, or_true, true_or, or_false, false_or, or_self, not_true, not_false_iff]
        exact q1
      · skip
        refine R_iload_n2 (pc := 49) dX1_threatSet_49 ?_
        refine R_iconst (pc := 50) (v := 1) dX1_threatSet_50 (by decide) ?_
        refine R_aload6 (pc := 51) dX1_threatSet_51 ?_
        refine G_X1_94 (pc := 53) dX1_threatSet_53 (by assumption) ?_
        refine R_ishl (pc := 56) dX1_threatSet_56 ?_
        refine R_ior (pc := 57) dX1_threatSet_57 ?_
        refine R_istore_n2 (pc := 58) dX1_threatSet_58 rfl (by decide) ?_
        refine R_iinc5 (pc := 59) dX1_threatSet_59 rfl (by decide) ?_
        refine R_goto (pc := 62) 14 dX1_threatSet_62 (by decide) ?_
        rw [nI_s]
        refine R_weak (by repeat (first | exact trivial | refine ⟨rfl, ?_⟩ | refine ⟨trivial, ?_⟩)) (R_post (fun a h1 q1 => ?_) (ih (i + 1) (by omega) trivial _))
        rw [kf_s]
        simp only [c_35, c_46, reduceCtorEq, if_true, if_false, reduceIte, and_true, true_and, and_false, false_and, and_self, or_true, true_or, or_false, false_or, or_self, not_true, not_false_iff]
        exact q1

set_option maxHeartbeats 4000000 in
set_option maxRecDepth 100000 in
theorem c_X1_threatSet (hG : GmAt h g G) {v : Nat} (hv : v < 8) : Spec l D cA N0 m_X1_threatSet 4 0 0 [.ref g, .ref (sad g v)] h (fun r h' => r = some (.int (k_threats G v)) ∧ h' = h) := by
  refine Spec.of (L := [some (.ref g), some (.ref (sad g v)), none, none, none, none, none]) (by decide) rfl (Nat.le_of_ble_eq_true rfl) ?_
  have go := hG.o0
  have gc0 := hG.c0
  have gc1 := hG.c1
  have gi := hG.is
  have gs := hG.sa
  refine R_iconst (pc := 0) (v := 0) dX1_threatSet_0 (by decide) ?_
  refine R_istore_n2 (pc := 1) dX1_threatSet_1 rfl (by decide) ?_
  refine R_aload_n0 (pc := 2) dX1_threatSet_2 ?_
  refine G_X1_33 (pc := 3) dX1_threatSet_3 (by assumption) ?_
  refine R_astore_n3 (pc := 6) dX1_threatSet_6 rfl (by decide) ?_
  refine R_aload_n3 (pc := 7) dX1_threatSet_7 ?_
  refine R_alen (pc := 8) (v := 8) dX1_threatSet_8 (by assumption) (by decide) rfl ?_
  refine R_istore4 (pc := 9) dX1_threatSet_9 rfl (by decide) ?_
  refine R_iconst (pc := 11) (v := 0) dX1_threatSet_11 (by decide) ?_
  refine R_istore5 (pc := 12) dX1_threatSet_12 rfl (by decide) ?_
  exact L_X1_threatSet hG hv 8 0 rfl trivial 0

set_option maxHeartbeats 4000000 in
set_option maxRecDepth 100000 in
theorem L_X1_islandCount (hG : GmAt h g G)  : ∀ (n i : Nat), i + n = 81 → True → ∀ (acc : Int32), RunM l D cA N0 m_X1_islandCount 0 0 0 (fun r h' => r = some (.int (kf (fun a j => a + G.2.1 j) acc i n)) ∧ h' = h) h 0 0 13 [some (.ref g), some (.int acc), some (.ref (gA g 8)), some (.int 81), some (.int (nI i)), none] [] := by
  intro n
  induction n with
  | zero =>
    intro i hin hinv acc
    have hie : i = 81 := by omega
    subst hie
    have go := hG.o0
    have gc0 := hG.c0
    have gc1 := hG.c1
    have gi := hG.is
    have gs := hG.sa
    refine R_iload4 (pc := 13) dX1_islandCount_13 ?_
    refine R_iload_n3 (pc := 15) dX1_islandCount_15 ?_
    refine R_icmp_ge (pc := 16) 36 dX1_islandCount_16 (by decide) (fun c_16 => ?_) (fun c_16 => absurd (by decide) c_16)
    refine R_iload_n1 (pc := 36) dX1_islandCount_36 ?_
    refine R_iret (pc := 37) rfl rfl dX1_islandCount_37 ?_
    exact ⟨rfl, rfl⟩
  | succ n ih =>
    intro i hin hinv acc
    have hlt : i < 81 := by omega
    have go := hG.o0
    have gc0 := hG.c0
    have gc1 := hG.c1
    have gi := hG.is
    have gs := hG.sa
    refine R_iload4 (pc := 13) dX1_islandCount_13 ?_
    refine R_iload_n3 (pc := 15) dX1_islandCount_15 ?_
    refine R_icmp_ge (pc := 16) 36 dX1_islandCount_16 (by decide) (fun c_16 => absurd c_16 (nI_ge hlt (by decide))) (fun c_16 => ?_)
    refine R_aload_n2 (pc := 19) dX1_islandCount_19 ?_
    refine R_iload4 (pc := 20) dX1_islandCount_20 ?_
    refine R_iald (pc := 22) dX1_islandCount_22 (by assumption) (in_n hlt (by decide)) ?_
    rw [nI_clamp (show i < 2 ^ 31 by omega)]
    refine R_istore5 (pc := 23) dX1_islandCount_23 rfl (by decide) ?_
    refine R_iload_n1 (pc := 25) dX1_islandCount_25 ?_
    refine R_iload5 (pc := 26) dX1_islandCount_26 ?_
    refine R_iadd (pc := 28) dX1_islandCount_28 ?_
    refine R_istore_n1 (pc := 29) dX1_islandCount_29 rfl (by decide) ?_
    refine R_iinc4 (pc := 30) dX1_islandCount_30 rfl (by decide) ?_
    refine R_goto (pc := 33) 13 dX1_islandCount_33 (by decide) ?_
    rw [nI_s]
    exact R_weak (by repeat (first | exact trivial | refine ⟨rfl, ?_⟩ | refine ⟨trivial, ?_⟩)) (ih (i + 1) (by omega) trivial _)

set_option maxHeartbeats 4000000 in
set_option maxRecDepth 100000 in
theorem c_X1_islandCount (hG : GmAt h g G)  : Spec l D cA N0 m_X1_islandCount 0 0 0 [.ref g] h (fun r h' => r = some (.int (k_isls G)) ∧ h' = h) := by
  refine Spec.of (L := [some (.ref g), none, none, none, none, none]) (by decide) rfl (Nat.le_of_ble_eq_true rfl) ?_
  have go := hG.o0
  have gc0 := hG.c0
  have gc1 := hG.c1
  have gi := hG.is
  have gs := hG.sa
  refine R_iconst (pc := 0) (v := 0) dX1_islandCount_0 (by decide) ?_
  refine R_istore_n1 (pc := 1) dX1_islandCount_1 rfl (by decide) ?_
  refine R_aload_n0 (pc := 2) dX1_islandCount_2 ?_
  refine G_X1_27 (pc := 3) dX1_islandCount_3 (by assumption) ?_
  refine R_astore_n2 (pc := 6) dX1_islandCount_6 rfl (by decide) ?_
  refine R_aload_n2 (pc := 7) dX1_islandCount_7 ?_
  refine R_alen (pc := 8) (v := 81) dX1_islandCount_8 (by assumption) (by decide) rfl ?_
  refine R_istore_n3 (pc := 9) dX1_islandCount_9 rfl (by decide) ?_
  refine R_iconst (pc := 10) (v := 0) dX1_islandCount_10 (by decide) ?_
  refine R_istore4 (pc := 11) dX1_islandCount_11 rfl (by decide) ?_
  exact L_X1_islandCount hG 81 0 rfl trivial 0

set_option maxHeartbeats 4000000 in
set_option maxRecDepth 100000 in
theorem L_X1_fleetOf (hG : GmAt h g G) {c : Int32} : ∀ (n i : Nat), i + n = 8 → True → ∀ (acc : Int32), RunM l D cA N0 m_X1_fleetOf 1 0 0 (fun r h' => r = some (.int (kf (fun a j => if 0 < shF G j 4 ∧ shF G j 1 = c then a ||| 1 <<< (shF G j 0 &&& 31) else a) acc i n)) ∧ h' = h) h 0 0 14 [some (.ref g), some (.int c), some (.int acc), some (.ref (gA g 9)), some (.int 8), some (.int (nI i)), none] [] := by
  intro n
  induction n with
  | zero =>
    intro i hin hinv acc
    have hie : i = 8 := by omega
    subst hie
    have go := hG.o0
    have gc0 := hG.c0
    have gc1 := hG.c1
    have gi := hG.is
    have gs := hG.sa
    refine R_iload5 (pc := 14) dX1_fleetOf_14 ?_
    refine R_iload4 (pc := 16) dX1_fleetOf_16 ?_
    refine R_icmp_ge (pc := 18) 60 dX1_fleetOf_18 (by decide) (fun c_18 => ?_) (fun c_18 => absurd (by decide) c_18)
    refine R_iload_n2 (pc := 60) dX1_fleetOf_60 ?_
    refine R_iret (pc := 61) rfl rfl dX1_fleetOf_61 ?_
    exact ⟨rfl, rfl⟩
  | succ n ih =>
    intro i hin hinv acc
    have hlt : i < 8 := by omega
    have go := hG.o0
    have gc0 := hG.c0
    have gc1 := hG.c1
    have gi := hG.is
    have gs := hG.sa
    refine R_iload5 (pc := 14) dX1_fleetOf_14 ?_
    refine R_iload4 (pc := 16) dX1_fleetOf_16 ?_
    refine R_icmp_ge (pc := 18) 60 dX1_fleetOf_18 (by decide) (fun c_18 => absurd c_18 (nI_ge hlt (by decide))) (fun c_18 => ?_)
    refine R_aload_n3 (pc := 21) dX1_fleetOf_21 ?_
    refine R_iload5 (pc := 22) dX1_fleetOf_22 ?_
    refine R_ship (pc := 24) dX1_fleetOf_24 (by assumption) (by assumption) ?_
    have fsi := hG.sh hlt
    refine R_astore6 (pc := 25) dX1_fleetOf_25 rfl (by decide) ?_
    refine R_aload6 (pc := 27) dX1_fleetOf_27 ?_
    refine R_callV0 (pc := 29) (T := TX7) cal_X7_floats kw369 kw370 kw371 dX1_fleetOf_29 (c_X7_floats (by assumption)) (by decide) (Nat.le_of_ble_eq_true rfl) (ci := 5) rfl (by assumption) ?_
    rintro _ _ ⟨rfl, rfl⟩
    refine R_ifb_eq (pc := 32) 54 dX1_fleetOf_32 (by decide) (fun c_32 => ?_) (fun c_32 => ?_)
    · skip
      refine R_iinc5 (pc := 54) dX1_fleetOf_54 rfl (by decide) ?_
      refine R_goto (pc := 57) 14 dX1_fleetOf_57 (by decide) ?_
      rw [nI_s]
      refine R_weak (by repeat (first | exact trivial | refine ⟨rfl, ?_⟩ | refine ⟨trivial, ?_⟩)) (R_post (fun a h1 q1 => ?_) (ih (i + 1) (by omega) trivial _))
      rw [kf_s]
      simp only [c_32, reduceCtorEq, if_true, if_false, reduceIte, and_true, true_and, and_false, false_and, and_self, or_true, true_or, or_false, false_or, or_self, not_true, not_false_iff]
      exact q1
    · skip
      refine R_aload6 (pc := 35) dX1_fleetOf_35 ?_
      refine G_X1_105 (pc := 37) dX1_fleetOf_37 (by assumption) ?_
      refine R_iload_n1 (pc := 40) dX1_fleetOf_40 ?_
      refine R_icmp_ne (pc := 41) 54 dX1_fleetOf_41 (by decide) (fun c_41 => ?_) (fun c_41 => ?_)
      · skip
        refine R_iinc5 (pc := 54) dX1_fleetOf_54 rfl (by decide) ?_
        refine R_goto (pc := 57) 14 dX1_fleetOf_57 (by decide) ?_
        rw [nI_s]
        refine R_weak (by repeat (first | exact trivial | refine ⟨rfl, ?_⟩ | refine ⟨trivial, ?_⟩)) (R_post (fun a h1 q1 => ?_) (ih (i + 1) (by omega) trivial _))
        rw [kf_s]
        simp only [c_32, c_41, reduceCtorEq, if_true, if_false, reduceIte, and_true, true_and, and_false, false_and, and_self, or_true, true_or, or_false, false_or, or_self, not_true, not_false_iff]
        exact q1
      · skip
        refine R_iload_n2 (pc := 44) dX1_fleetOf_44 ?_
        refine R_iconst (pc := 45) (v := 1) dX1_fleetOf_45 (by decide) ?_
        refine R_aload6 (pc := 46) dX1_fleetOf_46 ?_
        refine G_X1_94 (pc := 48) dX1_fleetOf_48 (by assumption) ?_
        refine R_ishl (pc := 51) dX1_fleetOf_51 ?_
        refine R_ior (pc := 52) dX1_fleetOf_52 ?_
        refine R_istore_n2 (pc := 53) dX1_fleetOf_53 rfl (by decide) ?_
        refine R_iinc5 (pc := 54) dX1_fleetOf_54 rfl (by decide) ?_
        refine R_goto (pc := 57) 14 dX1_fleetOf_57 (by decide) ?_
        rw [nI_s]
        refine R_weak (by repeat (first | exact trivial | refine ⟨rfl, ?_⟩ | refine ⟨trivial, ?_⟩)) (R_post (fun a h1 q1 => ?_) (ih (i + 1) (by omega) trivial _))
        rw [kf_s]
        simp only [c_32, c_41, reduceCtorEq, if_true, if_false, reduceIte, and_true, true_and, and_false, false_and, and_self, or_true, true_or, or_false, false_or, or_self, not_true, not_false_iff]
        exact q1

set_option maxHeartbeats 4000000 in
set_option maxRecDepth 100000 in
theorem c_X1_fleetOf (hG : GmAt h g G) {c : Int32} : Spec l D cA N0 m_X1_fleetOf 1 0 0 [.ref g, .int c] h (fun r h' => r = some (.int (k_fleet G c)) ∧ h' = h) := by
  refine Spec.of (L := [some (.ref g), some (.int c), none, none, none, none, none]) (by decide) rfl (Nat.le_of_ble_eq_true rfl) ?_
  have go := hG.o0
  have gc0 := hG.c0
  have gc1 := hG.c1
  have gi := hG.is
  have gs := hG.sa
  refine R_iconst (pc := 0) (v := 0) dX1_fleetOf_0 (by decide) ?_
  refine R_istore_n2 (pc := 1) dX1_fleetOf_1 rfl (by decide) ?_
  refine R_aload_n0 (pc := 2) dX1_fleetOf_2 ?_
  refine G_X1_33 (pc := 3) dX1_fleetOf_3 (by assumption) ?_
  refine R_astore_n3 (pc := 6) dX1_fleetOf_6 rfl (by decide) ?_
  refine R_aload_n3 (pc := 7) dX1_fleetOf_7 ?_
  refine R_alen (pc := 8) (v := 8) dX1_fleetOf_8 (by assumption) (by decide) rfl ?_
  refine R_istore4 (pc := 9) dX1_fleetOf_9 rfl (by decide) ?_
  refine R_iconst (pc := 11) (v := 0) dX1_fleetOf_11 (by decide) ?_
  refine R_istore5 (pc := 12) dX1_fleetOf_12 rfl (by decide) ?_
  exact L_X1_fleetOf hG 8 0 rfl trivial 0

set_option maxHeartbeats 4000000 in
set_option maxRecDepth 100000 in
theorem L_X1_hullsOf (hG : GmAt h g G) {c : Int32} : ∀ (n i : Nat), i + n = 8 → True → ∀ (acc : Int32), RunM l D cA N0 m_X1_hullsOf 1 0 0 (fun r h' => r = some (.int (kf (fun a j => if 0 < shF G j 4 ∧ shF G j 1 = c then a + shF G j 4 else a) acc i n)) ∧ h' = h) h 0 0 14 [some (.ref g), some (.int c), some (.int acc), some (.ref (gA g 9)), some (.int 8), some (.int (nI i)), none] [] := by
  intro n
  induction n with
  | zero =>
    intro i hin hinv acc
    have hie : i = 8 := by omega
    subst hie
    have go := hG.o0
    have gc0 := hG.c0
    have gc1 := hG.c1
    have gi := hG.is
    have gs := hG.sa
    refine R_iload5 (pc := 14) dX1_hullsOf_14 ?_
    refine R_iload4 (pc := 16) dX1_hullsOf_16 ?_
    refine R_icmp_ge (pc := 18) 58 dX1_hullsOf_18 (by decide) (fun c_18 => ?_) (fun c_18 => absurd (by decide) c_18)
    refine R_iload_n2 (pc := 58) dX1_hullsOf_58 ?_
    refine R_iret (pc := 59) rfl rfl dX1_hullsOf_59 ?_
    exact ⟨rfl, rfl⟩
  | succ n ih =>
    intro i hin hinv acc
    have hlt : i < 8 := by omega
    have go := hG.o0
    have gc0 := hG.c0
    have gc1 := hG.c1
    have gi := hG.is
    have gs := hG.sa
    refine R_iload5 (pc := 14) dX1_hullsOf_14 ?_
    refine R_iload4 (pc := 16) dX1_hullsOf_16 ?_
    refine R_icmp_ge (pc := 18) 58 dX1_hullsOf_18 (by decide) (fun c_18 => absurd c_18 (nI_ge hlt (by decide))) (fun c_18 => ?_)
    refine R_aload_n3 (pc := 21) dX1_hullsOf_21 ?_
    refine R_iload5 (pc := 22) dX1_hullsOf_22 ?_
    refine R_ship (pc := 24) dX1_hullsOf_24 (by assumption) (by assumption) ?_
    have fsi := hG.sh hlt
    refine R_astore6 (pc := 25) dX1_hullsOf_25 rfl (by decide) ?_
    refine R_aload6 (pc := 27) dX1_hullsOf_27 ?_
    refine R_callV0 (pc := 29) (T := TX7) cal_X7_floats kw369 kw370 kw371 dX1_hullsOf_29 (c_X7_floats (by assumption)) (by decide) (Nat.le_of_ble_eq_true rfl) (ci := 5) rfl (by assumption) ?_
    rintro _ _ ⟨rfl, rfl⟩
    refine R_ifb_eq (pc := 32) 52 dX1_hullsOf_32 (by decide) (fun c_32 => ?_) (fun c_32 => ?_)
    · skip
      refine R_iinc5 (pc := 52) dX1_hullsOf_52 rfl (by decide) ?_
      refine R_goto (pc := 55) 14 dX1_hullsOf_55 (by decide) ?_
      rw [nI_s]
      refine R_weak (by repeat (first | exact trivial | refine ⟨rfl, ?_⟩ | refine ⟨trivial, ?_⟩)) (R_post (fun a h1 q1 => ?_) (ih (i + 1) (by omega) trivial _))
      rw [kf_s]
      simp only [c_32, reduceCtorEq, if_true, if_false, reduceIte, and_true, true_and, and_false, false_and, and_self, or_true, true_or, or_false, false_or, or_self, not_true, not_false_iff]
      exact q1
    · skip
      refine R_aload6 (pc := 35) dX1_hullsOf_35 ?_
      refine G_X1_105 (pc := 37) dX1_hullsOf_37 (by assumption) ?_
      refine R_iload_n1 (pc := 40) dX1_hullsOf_40 ?_
      refine R_icmp_ne (pc := 41) 52 dX1_hullsOf_41 (by decide) (fun c_41 => ?_) (fun c_41 => ?_)
      · skip
        refine R_iinc5 (pc := 52) dX1_hullsOf_52 rfl (by decide) ?_
        refine R_goto (pc := 55) 14 dX1_hullsOf_55 (by decide) ?_
        rw [nI_s]
        refine R_weak (by repeat (first | exact trivial | refine ⟨rfl, ?_⟩ | refine ⟨trivial, ?_⟩)) (R_post (fun a h1 q1 => ?_) (ih (i + 1) (by omega) trivial _))
        rw [kf_s]
        simp only [c_32, c_41, reduceCtorEq, if_true, if_false, reduceIte, and_true, true_and, and_false, false_and, and_self, or_true, true_or, or_false, false_or, or_self, not_true, not_false_iff]
        exact q1
      · skip
        refine R_iload_n2 (pc := 44) dX1_hullsOf_44 ?_
        refine R_aload6 (pc := 45) dX1_hullsOf_45 ?_
        refine G_X1_111 (pc := 47) dX1_hullsOf_47 (by assumption) ?_
        refine R_iadd (pc := 50) dX1_hullsOf_50 ?_
        refine R_istore_n2 (pc := 51) dX1_hullsOf_51 rfl (by decide) ?_
        refine R_iinc5 (pc := 52) dX1_hullsOf_52 rfl (by decide) ?_
        refine R_goto (pc := 55) 14 dX1_hullsOf_55 (by decide) ?_
        rw [nI_s]
        refine R_weak (by repeat (first | exact trivial | refine ⟨rfl, ?_⟩ | refine ⟨trivial, ?_⟩)) (R_post (fun a h1 q1 => ?_) (ih (i + 1) (by omega) trivial _))
        rw [kf_s]
        simp only [c_32, c_41, reduceCtorEq, if_true, if_false, reduceIte, and_true, true_and, and_false, false_and, and_self, or_true, true_or, or_false, false_or, or_self, not_true, not_false_iff]
        exact q1

set_option maxHeartbeats 4000000 in
set_option maxRecDepth 100000 in
theorem c_X1_hullsOf (hG : GmAt h g G) {c : Int32} : Spec l D cA N0 m_X1_hullsOf 1 0 0 [.ref g, .int c] h (fun r h' => r = some (.int (k_hulls G c)) ∧ h' = h) := by
  refine Spec.of (L := [some (.ref g), some (.int c), none, none, none, none, none]) (by decide) rfl (Nat.le_of_ble_eq_true rfl) ?_
  have go := hG.o0
  have gc0 := hG.c0
  have gc1 := hG.c1
  have gi := hG.is
  have gs := hG.sa
  refine R_iconst (pc := 0) (v := 0) dX1_hullsOf_0 (by decide) ?_
  refine R_istore_n2 (pc := 1) dX1_hullsOf_1 rfl (by decide) ?_
  refine R_aload_n0 (pc := 2) dX1_hullsOf_2 ?_
  refine G_X1_33 (pc := 3) dX1_hullsOf_3 (by assumption) ?_
  refine R_astore_n3 (pc := 6) dX1_hullsOf_6 rfl (by decide) ?_
  refine R_aload_n3 (pc := 7) dX1_hullsOf_7 ?_
  refine R_alen (pc := 8) (v := 8) dX1_hullsOf_8 (by assumption) (by decide) rfl ?_
  refine R_istore4 (pc := 9) dX1_hullsOf_9 rfl (by decide) ?_
  refine R_iconst (pc := 11) (v := 0) dX1_hullsOf_11 (by decide) ?_
  refine R_istore5 (pc := 12) dX1_hullsOf_12 rfl (by decide) ?_
  exact L_X1_hullsOf hG 8 0 rfl trivial 0

set_option maxHeartbeats 4000000 in
set_option maxRecDepth 100000 in
theorem L_X1_strengthOf (hG : GmAt h g G) {c : Int32} : ∀ (n i : Nat), i + n = 8 → True → ∀ (acc : Int32), RunM l D cA N0 m_X1_strengthOf 1 0 0 (fun r h' => r = some (.int (kf (fun a j => if 0 < shF G j 4 ∧ shF G j 1 = c then a + (6 * shF G j 4 + 4 * shF G j 6 + shF G j 7 * shF G j 5) else a) acc i n / 8)) ∧ h' = h) h 0 0 14 [some (.ref g), some (.int c), some (.int acc), some (.ref (gA g 9)), some (.int 8), some (.int (nI i)), none] [] := by
  intro n
  induction n with
  | zero =>
    intro i hin hinv acc
    have hie : i = 8 := by omega
    subst hie
    have go := hG.o0
    have gc0 := hG.c0
    have gc1 := hG.c1
    have gi := hG.is
    have gs := hG.sa
    refine R_iload5 (pc := 14) dX1_strengthOf_14 ?_
    refine R_iload4 (pc := 16) dX1_strengthOf_16 ?_
    refine R_icmp_ge (pc := 18) 81 dX1_strengthOf_18 (by decide) (fun c_18 => ?_) (fun c_18 => absurd (by decide) c_18)
    refine R_iload_n2 (pc := 81) dX1_strengthOf_81 ?_
    refine R_bipush (pc := 82) (v := 8) dX1_strengthOf_82 (by decide) ?_
    refine R_idiv (pc := 84) dX1_strengthOf_84 (by decide) ?_
    refine R_iret (pc := 85) rfl rfl dX1_strengthOf_85 ?_
    exact ⟨rfl, rfl⟩
  | succ n ih =>
    intro i hin hinv acc
    have hlt : i < 8 := by omega
    have go := hG.o0
    have gc0 := hG.c0
    have gc1 := hG.c1
    have gi := hG.is
    have gs := hG.sa
    refine R_iload5 (pc := 14) dX1_strengthOf_14 ?_
    refine R_iload4 (pc := 16) dX1_strengthOf_16 ?_
    refine R_icmp_ge (pc := 18) 81 dX1_strengthOf_18 (by decide) (fun c_18 => absurd c_18 (nI_ge hlt (by decide))) (fun c_18 => ?_)
    refine R_aload_n3 (pc := 21) dX1_strengthOf_21 ?_
    refine R_iload5 (pc := 22) dX1_strengthOf_22 ?_
    refine R_ship (pc := 24) dX1_strengthOf_24 (by assumption) (by assumption) ?_
    have fsi := hG.sh hlt
    refine R_astore6 (pc := 25) dX1_strengthOf_25 rfl (by decide) ?_
    refine R_aload6 (pc := 27) dX1_strengthOf_27 ?_
    refine R_callV0 (pc := 29) (T := TX7) cal_X7_floats kw369 kw370 kw371 dX1_strengthOf_29 (c_X7_floats (by assumption)) (by decide) (Nat.le_of_ble_eq_true rfl) (ci := 5) rfl (by assumption) ?_
    rintro _ _ ⟨rfl, rfl⟩
    refine R_ifb_eq (pc := 32) 75 dX1_strengthOf_32 (by decide) (fun c_32 => ?_) (fun c_32 => ?_)
    · skip
      refine R_iinc5 (pc := 75) dX1_strengthOf_75 rfl (by decide) ?_
      refine R_goto (pc := 78) 14 dX1_strengthOf_78 (by decide) ?_
      rw [nI_s]
      refine R_weak (by repeat (first | exact trivial | refine ⟨rfl, ?_⟩ | refine ⟨trivial, ?_⟩)) (R_post (fun a h1 q1 => ?_) (ih (i + 1) (by omega) trivial _))
      rw [kf_s]
      simp only [c_32, reduceCtorEq, if_true, if_false, reduceIte, and_true, true_and, and_false, false_and, and_self, or_true, true_or, or_false, false_or, or_self, not_true, not_false_iff]
      exact q1
    · skip
      refine R_aload6 (pc := 35) dX1_strengthOf_35 ?_
      refine G_X1_105 (pc := 37) dX1_strengthOf_37 (by assumption) ?_
      refine R_iload_n1 (pc := 40) dX1_strengthOf_40 ?_
      refine R_icmp_ne (pc := 41) 75 dX1_strengthOf_41 (by decide) (fun c_41 => ?_) (fun c_41 => ?_)
      · skip
        refine R_iinc5 (pc := 75) dX1_strengthOf_75 rfl (by decide) ?_
        refine R_goto (pc := 78) 14 dX1_strengthOf_78 (by decide) ?_
        rw [nI_s]
        refine R_weak (by repeat (first | exact trivial | refine ⟨rfl, ?_⟩ | refine ⟨trivial, ?_⟩)) (R_post (fun a h1 q1 => ?_) (ih (i + 1) (by omega) trivial _))
        rw [kf_s]
        simp only [c_32, c_41, reduceCtorEq, if_true, if_false, reduceIte, and_true, true_and, and_false, false_and, and_self, or_true, true_or, or_false, false_or, or_self, not_true, not_false_iff]
        exact q1
      · skip
        refine R_iload_n2 (pc := 44) dX1_strengthOf_44 ?_
        refine R_bipush (pc := 45) (v := 6) dX1_strengthOf_45 (by decide) ?_
        refine R_aload6 (pc := 47) dX1_strengthOf_47 ?_
        refine G_X1_111 (pc := 49) dX1_strengthOf_49 (by assumption) ?_
        refine R_imul (pc := 52) dX1_strengthOf_52 ?_
        refine R_iconst (pc := 53) (v := 4) dX1_strengthOf_53 (by decide) ?_
        refine R_aload6 (pc := 54) dX1_strengthOf_54 ?_
        refine G_X1_117 (pc := 56) dX1_strengthOf_56 (by assumption) ?_
        refine R_imul (pc := 59) dX1_strengthOf_59 ?_
        refine R_iadd (pc := 60) dX1_strengthOf_60 ?_
        refine R_aload6 (pc := 61) dX1_strengthOf_61 ?_
        refine G_X1_120 (pc := 63) dX1_strengthOf_63 (by assumption) ?_
        refine R_aload6 (pc := 66) dX1_strengthOf_66 ?_
        refine G_X1_114 (pc := 68) dX1_strengthOf_68 (by assumption) ?_
        refine R_imul (pc := 71) dX1_strengthOf_71 ?_
        refine R_iadd (pc := 72) dX1_strengthOf_72 ?_
        refine R_iadd (pc := 73) dX1_strengthOf_73 ?_
        refine R_istore_n2 (pc := 74) dX1_strengthOf_74 rfl (by decide) ?_
        refine R_iinc5 (pc := 75) dX1_strengthOf_75 rfl (by decide) ?_
        refine R_goto (pc := 78) 14 dX1_strengthOf_78 (by decide) ?_
        rw [nI_s]
        refine R_weak (by repeat (first | exact trivial | refine ⟨rfl, ?_⟩ | refine ⟨trivial, ?_⟩)) (R_post (fun a h1 q1 => ?_) (ih (i + 1) (by omega) trivial _))
        rw [kf_s]
        simp only [c_32, c_41, reduceCtorEq, if_true, if_false, reduceIte, and_true, true_and, and_false, false_and, and_self, or_true, true_or, or_false, false_or, or_self, not_true, not_false_iff]
        exact q1

set_option maxHeartbeats 4000000 in
set_option maxRecDepth 100000 in
theorem c_X1_strengthOf (hG : GmAt h g G) {c : Int32} : Spec l D cA N0 m_X1_strengthOf 1 0 0 [.ref g, .int c] h (fun r h' => r = some (.int (k_strength G c)) ∧ h' = h) := by
  refine Spec.of (L := [some (.ref g), some (.int c), none, none, none, none, none]) (by decide) rfl (Nat.le_of_ble_eq_true rfl) ?_
  have go := hG.o0
  have gc0 := hG.c0
  have gc1 := hG.c1
  have gi := hG.is
  have gs := hG.sa
  refine R_iconst (pc := 0) (v := 0) dX1_strengthOf_0 (by decide) ?_
  refine R_istore_n2 (pc := 1) dX1_strengthOf_1 rfl (by decide) ?_
  refine R_aload_n0 (pc := 2) dX1_strengthOf_2 ?_
  refine G_X1_33 (pc := 3) dX1_strengthOf_3 (by assumption) ?_
  refine R_astore_n3 (pc := 6) dX1_strengthOf_6 rfl (by decide) ?_
  refine R_aload_n3 (pc := 7) dX1_strengthOf_7 ?_
  refine R_alen (pc := 8) (v := 8) dX1_strengthOf_8 (by assumption) (by decide) rfl ?_
  refine R_istore4 (pc := 9) dX1_strengthOf_9 rfl (by decide) ?_
  refine R_iconst (pc := 11) (v := 0) dX1_strengthOf_11 (by decide) ?_
  refine R_istore5 (pc := 12) dX1_strengthOf_12 rfl (by decide) ?_
  exact L_X1_strengthOf hG 8 0 rfl trivial 0

set_option maxHeartbeats 4000000 in
set_option maxRecDepth 100000 in
theorem c_X1_tally (hG : GmAt h g G) {w : Int32} : Spec l D cA N0 m_X1_tally 2 0 0 [.ref g, .int w] h (fun r h' => r = some (.int (k_tally G w)) ∧ h' = h) := by
  refine Spec.of (L := [some (.ref g), some (.int w)]) (by decide) rfl (Nat.le_of_ble_eq_true rfl) ?_
  have go := hG.o0
  have gc0 := hG.c0
  have gc1 := hG.c1
  have gi := hG.is
  have gs := hG.sa
  refine R_iload_n1 (pc := 0) dX1_tally_0 ?_
  refine R_swG (pc := 1) (lo := 0) (hi := 8) 112 dX1_tally_1 (by decide) (fun c_1 => ?_) (fun c_1 c_1b => ?_)
  · skip
    refine R_iconst (pc := 112) (v := (-1)) dX1_tally_112 (by decide) ?_
    refine R_iret (pc := 113) rfl rfl dX1_tally_113 ?_
    exact ⟨by simp only [k_tally, sw_ne c_1 (v := 0) (by decide), sw_ne c_1 (v := 1) (by decide), sw_ne c_1 (v := 2) (by decide), sw_ne c_1 (v := 3) (by decide), sw_ne c_1 (v := 4) (by decide), sw_ne c_1 (v := 5) (by decide), sw_ne c_1 (v := 6) (by decide), sw_ne c_1 (v := 7) (by decide), sw_ne c_1 (v := 8) (by decide), reduceCtorEq, if_true, if_false, reduceIte, and_true, true_and, and_false, false_and, and_self, or_true, true_or, or_false, false_or, or_self, not_true, not_false_iff], rfl⟩
  · skip
    rcases sw_0_8 _ c_1 c_1b with c_1 | c_1 | c_1 | c_1 | c_1 | c_1 | c_1 | c_1 | c_1
    · skip
      refine R_swE (pc := 1) (v := 0) (off := 51) 52 dX1_tally_1 c_1 (by decide) (by decide) (by decide) (by decide) ?_
      refine R_aload_n0 (pc := 52) dX1_tally_52 ?_
      refine G_X1_40 (pc := 53) dX1_tally_53 (by assumption) ?_
      refine R_iret (pc := 56) rfl rfl dX1_tally_56 ?_
      exact ⟨by simp (decide := true) only [k_tally, c_1, reduceCtorEq, if_true, if_false, reduceIte, and_true, true_and, and_false, false_and, and_self, or_true, true_or, or_false, false_or, or_self, not_true, not_false_iff], rfl⟩
    · skip
      refine R_swE (pc := 1) (v := 1) (off := 56) 57 dX1_tally_1 c_1 (by decide) (by decide) (by decide) (by decide) ?_
      refine R_aload_n0 (pc := 57) dX1_tally_57 ?_
      refine G_X1_43 (pc := 58) dX1_tally_58 (by assumption) ?_
      refine R_if_eq (pc := 61) 68 dX1_tally_61 (by decide) (fun c_61 => ?_) (fun c_61 => ?_)
      · skip
        refine R_iconst (pc := 68) (v := 0) dX1_tally_68 (by decide) ?_
        refine R_iret (pc := 69) rfl rfl dX1_tally_69 ?_
        exact ⟨by simp (decide := true) only [k_tally, c_1, c_61, reduceCtorEq, if_true, if_false, reduceIte, and_true, true_and, and_false, false_and, and_self, or_true, true_or, or_false, false_or, or_self, not_true, not_false_iff], rfl⟩
      · skip
        refine R_iconst (pc := 64) (v := 1) dX1_tally_64 (by decide) ?_
        refine R_goto (pc := 65) 69 dX1_tally_65 (by decide) ?_
        refine R_iret (pc := 69) rfl rfl dX1_tally_69 ?_
        exact ⟨by simp (decide := true) only [k_tally, c_1, c_61, reduceCtorEq, if_true, if_false, reduceIte, and_true, true_and, and_false, false_and, and_self, or_true, true_or, or_false, false_or, or_self, not_true, not_false_iff], rfl⟩
    · skip
      refine R_swE (pc := 1) (v := 2) (off := 69) 70 dX1_tally_1 c_1 (by decide) (by decide) (by decide) (by decide) ?_
      refine R_aload_n0 (pc := 70) dX1_tally_70 ?_
      refine G_X1_47 (pc := 71) dX1_tally_71 (by assumption) ?_
      refine R_iret (pc := 74) rfl rfl dX1_tally_74 ?_
      exact ⟨by simp (decide := true) only [k_tally, c_1, reduceCtorEq, if_true, if_false, reduceIte, and_true, true_and, and_false, false_and, and_self, or_true, true_or, or_false, false_or, or_self, not_true, not_false_iff], rfl⟩
    · skip
      refine R_swE (pc := 1) (v := 3) (off := 74) 75 dX1_tally_1 c_1 (by decide) (by decide) (by decide) (by decide) ?_
      refine R_aload_n0 (pc := 75) dX1_tally_75 ?_
      refine G_X1_9 (pc := 76) dX1_tally_76 (by assumption) ?_
      refine R_iret (pc := 79) rfl rfl dX1_tally_79 ?_
      exact ⟨by simp (decide := true) only [k_tally, c_1, reduceCtorEq, if_true, if_false, reduceIte, and_true, true_and, and_false, false_and, and_self, or_true, true_or, or_false, false_or, or_self, not_true, not_false_iff], rfl⟩
    · skip
      refine R_swE (pc := 1) (v := 4) (off := 79) 80 dX1_tally_1 c_1 (by decide) (by decide) (by decide) (by decide) ?_
      refine R_aload_n0 (pc := 80) dX1_tally_80 ?_
      refine R_callV0 (pc := 81) (T := TX1) cal_X1_toldSet kw361 kw363 kw4 dX1_tally_81 (c_X1_toldSet (by assumption)) (by decide) (Nat.le_of_ble_eq_true rfl) (ci := 1) rfl (by assumption) ?_
      rintro _ _ ⟨rfl, rfl⟩
      refine R_iret (pc := 84) rfl rfl dX1_tally_84 ?_
      exact ⟨by simp (decide := true) only [k_tally, c_1, reduceCtorEq, if_true, if_false, reduceIte, and_true, true_and, and_false, false_and, and_self, or_true, true_or, or_false, false_or, or_self, not_true, not_false_iff], rfl⟩
    · skip
      refine R_swE (pc := 1) (v := 5) (off := 84) 85 dX1_tally_1 c_1 (by decide) (by decide) (by decide) (by decide) ?_
      refine R_aload_n0 (pc := 85) dX1_tally_85 ?_
      refine G_X1_50 (pc := 86) dX1_tally_86 (by assumption) ?_
      refine R_iret (pc := 89) rfl rfl dX1_tally_89 ?_
      exact ⟨by simp (decide := true) only [k_tally, c_1, reduceCtorEq, if_true, if_false, reduceIte, and_true, true_and, and_false, false_and, and_self, or_true, true_or, or_false, false_or, or_self, not_true, not_false_iff], rfl⟩
    · skip
      refine R_swE (pc := 1) (v := 6) (off := 89) 90 dX1_tally_1 c_1 (by decide) (by decide) (by decide) (by decide) ?_
      refine R_aload_n0 (pc := 90) dX1_tally_90 ?_
      refine R_iconst (pc := 91) (v := 0) dX1_tally_91 (by decide) ?_
      refine R_callV1 (pc := 92) (T := TX1) cal_X1_fleetOf kw365 kw367 kw5 dX1_tally_92 (c_X1_fleetOf (by assumption)) (by decide) (Nat.le_of_ble_eq_true rfl) (ci := 1) rfl (by assumption) ?_
      rintro _ _ ⟨rfl, rfl⟩
      refine R_aload_n0 (pc := 95) dX1_tally_95 ?_
      refine R_iconst (pc := 96) (v := 1) dX1_tally_96 (by decide) ?_
      refine R_callV1 (pc := 97) (T := TX1) cal_X1_fleetOf kw365 kw367 kw5 dX1_tally_97 (c_X1_fleetOf (by assumption)) (by decide) (Nat.le_of_ble_eq_true rfl) (ci := 1) rfl (by assumption) ?_
      rintro _ _ ⟨rfl, rfl⟩
      refine R_ior (pc := 100) dX1_tally_100 ?_
      refine R_iret (pc := 101) rfl rfl dX1_tally_101 ?_
      exact ⟨by simp (decide := true) only [k_tally, c_1, reduceCtorEq, if_true, if_false, reduceIte, and_true, true_and, and_false, false_and, and_self, or_true, true_or, or_false, false_or, or_self, not_true, not_false_iff], rfl⟩
    · skip
      refine R_swE (pc := 1) (v := 7) (off := 101) 102 dX1_tally_1 c_1 (by decide) (by decide) (by decide) (by decide) ?_
      refine R_aload_n0 (pc := 102) dX1_tally_102 ?_
      refine R_callV0 (pc := 103) (T := TX1) cal_X1_islandCount kw373 kw375 kw6 dX1_tally_103 (c_X1_islandCount (by assumption)) (by decide) (Nat.le_of_ble_eq_true rfl) (ci := 1) rfl (by assumption) ?_
      rintro _ _ ⟨rfl, rfl⟩
      refine R_iret (pc := 106) rfl rfl dX1_tally_106 ?_
      exact ⟨by simp (decide := true) only [k_tally, c_1, reduceCtorEq, if_true, if_false, reduceIte, and_true, true_and, and_false, false_and, and_self, or_true, true_or, or_false, false_or, or_self, not_true, not_false_iff], rfl⟩
    · skip
      refine R_swE (pc := 1) (v := 8) (off := 106) 107 dX1_tally_1 c_1 (by decide) (by decide) (by decide) (by decide) ?_
      refine R_aload_n0 (pc := 107) dX1_tally_107 ?_
      refine G_X1_53 (pc := 108) dX1_tally_108 (by assumption) ?_
      refine R_iret (pc := 111) rfl rfl dX1_tally_111 ?_
      exact ⟨by simp (decide := true) only [k_tally, c_1, reduceCtorEq, if_true, if_false, reduceIte, and_true, true_and, and_false, false_and, and_self, or_true, true_or, or_false, false_or, or_self, not_true, not_false_iff], rfl⟩

set_option maxHeartbeats 4000000 in
set_option maxRecDepth 100000 in
theorem c_X1_tellOfCaptain (hG : GmAt h g G) {c w : Int32} : Spec l D cA N0 m_X1_tellOfCaptain 2 0 0 [.ref g, .int c, .int w] h (fun r h' => r = some (.int (k_tcap G c w)) ∧ h' = h) := by
  refine Spec.of (L := [some (.ref g), some (.int c), some (.int w), none]) (by decide) rfl (Nat.le_of_ble_eq_true rfl) ?_
  have go := hG.o0
  have gc0 := hG.c0
  have gc1 := hG.c1
  have gi := hG.is
  have gs := hG.sa
  refine R_aload_n0 (pc := 0) dX1_tellOfCaptain_0 ?_
  refine R_iload_n1 (pc := 1) dX1_tellOfCaptain_1 ?_
  refine R_callV1 (pc := 2) (T := TX1) cal_X1_captainOf kw482 kw484 kw11 dX1_tellOfCaptain_2 (c_X1_captainOf (by assumption)) (by decide) (Nat.le_of_ble_eq_true rfl) (ci := 1) rfl (by assumption) ?_
  rintro _ _ ⟨rfl, rfl⟩
  have gcp := hG.cp c
  refine R_astore_n3 (pc := 5) dX1_tellOfCaptain_5 rfl (by decide) ?_
  refine R_iload_n2 (pc := 6) dX1_tellOfCaptain_6 ?_
  refine R_swG (pc := 7) (lo := 0) (hi := 4) 67 dX1_tellOfCaptain_7 (by decide) (fun c_7 => ?_) (fun c_7 c_7b => ?_)
  · skip
    refine R_iconst (pc := 67) (v := (-1)) dX1_tellOfCaptain_67 (by decide) ?_
    refine R_iret (pc := 68) rfl rfl dX1_tellOfCaptain_68 ?_
    exact ⟨by simp only [k_tcap, sw_ne c_7 (v := 0) (by decide), sw_ne c_7 (v := 1) (by decide), sw_ne c_7 (v := 2) (by decide), sw_ne c_7 (v := 3) (by decide), sw_ne c_7 (v := 4) (by decide), reduceCtorEq, if_true, if_false, reduceIte, and_true, true_and, and_false, false_and, and_self, or_true, true_or, or_false, false_or, or_self, not_true, not_false_iff], rfl⟩
  · skip
    rcases sw_0_4 _ c_7 c_7b with c_7 | c_7 | c_7 | c_7 | c_7
    · skip
      refine R_swE (pc := 7) (v := 0) (off := 33) 40 dX1_tellOfCaptain_7 c_7 (by decide) (by decide) (by decide) (by decide) ?_
      refine R_aload_n3 (pc := 40) dX1_tellOfCaptain_40 ?_
      refine G_X1_247 (pc := 41) dX1_tellOfCaptain_41 (by assumption) ?_
      refine R_iret (pc := 44) rfl rfl dX1_tellOfCaptain_44 ?_
      exact ⟨by simp (decide := true) only [k_tcap, c_7, reduceCtorEq, if_true, if_false, reduceIte, and_true, true_and, and_false, false_and, and_self, or_true, true_or, or_false, false_or, or_self, not_true, not_false_iff], rfl⟩
    · skip
      refine R_swE (pc := 7) (v := 1) (off := 38) 45 dX1_tellOfCaptain_7 c_7 (by decide) (by decide) (by decide) (by decide) ?_
      refine R_aload_n3 (pc := 45) dX1_tellOfCaptain_45 ?_
      refine G_X1_133 (pc := 46) dX1_tellOfCaptain_46 (by assumption) ?_
      refine R_iret (pc := 49) rfl rfl dX1_tellOfCaptain_49 ?_
      exact ⟨by simp (decide := true) only [k_tcap, c_7, reduceCtorEq, if_true, if_false, reduceIte, and_true, true_and, and_false, false_and, and_self, or_true, true_or, or_false, false_or, or_self, not_true, not_false_iff], rfl⟩
    · skip
      refine R_swE (pc := 7) (v := 2) (off := 43) 50 dX1_tellOfCaptain_7 c_7 (by decide) (by decide) (by decide) (by decide) ?_
      refine R_aload_n3 (pc := 50) dX1_tellOfCaptain_50 ?_
      refine G_X1_127 (pc := 51) dX1_tellOfCaptain_51 (by assumption) ?_
      refine R_iret (pc := 54) rfl rfl dX1_tellOfCaptain_54 ?_
      exact ⟨by simp (decide := true) only [k_tcap, c_7, reduceCtorEq, if_true, if_false, reduceIte, and_true, true_and, and_false, false_and, and_self, or_true, true_or, or_false, false_or, or_self, not_true, not_false_iff], rfl⟩
    · skip
      refine R_swE (pc := 7) (v := 3) (off := 48) 55 dX1_tellOfCaptain_7 c_7 (by decide) (by decide) (by decide) (by decide) ?_
      refine R_aload_n0 (pc := 55) dX1_tellOfCaptain_55 ?_
      refine R_iload_n1 (pc := 56) dX1_tellOfCaptain_56 ?_
      refine R_callV1 (pc := 57) (T := TX1) cal_X1_fleetOf kw365 kw367 kw5 dX1_tellOfCaptain_57 (c_X1_fleetOf (by assumption)) (by decide) (Nat.le_of_ble_eq_true rfl) (ci := 1) rfl (by assumption) ?_
      rintro _ _ ⟨rfl, rfl⟩
      refine R_iret (pc := 60) rfl rfl dX1_tellOfCaptain_60 ?_
      exact ⟨by simp (decide := true) only [k_tcap, c_7, reduceCtorEq, if_true, if_false, reduceIte, and_true, true_and, and_false, false_and, and_self, or_true, true_or, or_false, false_or, or_self, not_true, not_false_iff], rfl⟩
    · skip
      refine R_swE (pc := 7) (v := 4) (off := 54) 61 dX1_tellOfCaptain_7 c_7 (by decide) (by decide) (by decide) (by decide) ?_
      refine R_aload_n0 (pc := 61) dX1_tellOfCaptain_61 ?_
      refine R_iload_n1 (pc := 62) dX1_tellOfCaptain_62 ?_
      refine R_callV1 (pc := 63) (T := TX1) cal_X1_hullsOf kw486 kw488 kw12 dX1_tellOfCaptain_63 (c_X1_hullsOf (by assumption)) (by decide) (Nat.le_of_ble_eq_true rfl) (ci := 1) rfl (by assumption) ?_
      rintro _ _ ⟨rfl, rfl⟩
      refine R_iret (pc := 66) rfl rfl dX1_tellOfCaptain_66 ?_
      exact ⟨by simp (decide := true) only [k_tcap, c_7, reduceCtorEq, if_true, if_false, reduceIte, and_true, true_and, and_false, false_and, and_self, or_true, true_or, or_false, false_or, or_self, not_true, not_false_iff], rfl⟩

set_option maxHeartbeats 4000000 in
set_option maxRecDepth 100000 in
theorem c_X1_tellOfShip (hG : GmAt h g G) {u : Nat} (hu : u < 8) {w : Int32} : Spec l D cA N0 m_X1_tellOfShip 3 0 0 [.ref g, .ref (sad g u), .int w] h (fun r h' => r = some (.int (k_tship G u w)) ∧ h' = h) := by
  refine Spec.of (L := [some (.ref g), some (.ref (sad g u)), some (.int w)]) (by decide) rfl (Nat.le_of_ble_eq_true rfl) ?_
  have go := hG.o0
  have gc0 := hG.c0
  have gc1 := hG.c1
  have gi := hG.is
  have gs := hG.sa
  have gu := hG.sh hu
  refine R_iload_n2 (pc := 0) dX1_tellOfShip_0 ?_
  refine R_swG (pc := 1) (lo := 0) (hi := 10) 132 dX1_tellOfShip_1 (by decide) (fun c_1 => ?_) (fun c_1 c_1b => ?_)
  · skip
    refine R_iconst (pc := 132) (v := (-1)) dX1_tellOfShip_132 (by decide) ?_
    refine R_iret (pc := 133) rfl rfl dX1_tellOfShip_133 ?_
    exact ⟨by simp only [k_tship, sw_ne c_1 (v := 0) (by decide), sw_ne c_1 (v := 1) (by decide), sw_ne c_1 (v := 2) (by decide), sw_ne c_1 (v := 3) (by decide), sw_ne c_1 (v := 4) (by decide), sw_ne c_1 (v := 5) (by decide), sw_ne c_1 (v := 6) (by decide), sw_ne c_1 (v := 7) (by decide), sw_ne c_1 (v := 8) (by decide), sw_ne c_1 (v := 9) (by decide), sw_ne c_1 (v := 10) (by decide), reduceCtorEq, if_true, if_false, reduceIte, and_true, true_and, and_false, false_and, and_self, or_true, true_or, or_false, false_or, or_self, not_true, not_false_iff], rfl⟩
  · skip
    rcases sw_0_10 _ c_1 c_1b with c_1 | c_1 | c_1 | c_1 | c_1 | c_1 | c_1 | c_1 | c_1 | c_1 | c_1
    · skip
      refine R_swE (pc := 1) (v := 0) (off := 59) 60 dX1_tellOfShip_1 c_1 (by decide) (by decide) (by decide) (by decide) ?_
      refine R_aload_n1 (pc := 60) dX1_tellOfShip_60 ?_
      refine G_X1_105 (pc := 61) dX1_tellOfShip_61 (by assumption) ?_
      refine R_iret (pc := 64) rfl rfl dX1_tellOfShip_64 ?_
      exact ⟨by simp (decide := true) only [k_tship, c_1, reduceCtorEq, if_true, if_false, reduceIte, and_true, true_and, and_false, false_and, and_self, or_true, true_or, or_false, false_or, or_self, not_true, not_false_iff], rfl⟩
    · skip
      refine R_swE (pc := 1) (v := 1) (off := 64) 65 dX1_tellOfShip_1 c_1 (by decide) (by decide) (by decide) (by decide) ?_
      refine R_aload_n1 (pc := 65) dX1_tellOfShip_65 ?_
      refine R_callV0 (pc := 66) (T := TX7) cal_X7_floats kw369 kw370 kw371 dX1_tellOfShip_66 (c_X7_floats (by assumption)) (by decide) (Nat.le_of_ble_eq_true rfl) (ci := 5) rfl (by assumption) ?_
      rintro _ _ ⟨rfl, rfl⟩
      refine R_ifb_eq (pc := 69) 79 dX1_tellOfShip_69 (by decide) (fun c_69 => ?_) (fun c_69 => ?_)
      · skip
        refine R_bipush (pc := 79) (v := (-9)) dX1_tellOfShip_79 (by decide) ?_
        refine R_iret (pc := 81) rfl rfl dX1_tellOfShip_81 ?_
        exact ⟨by simp (decide := true) only [k_tship, c_1, c_69, reduceCtorEq, if_true, if_false, reduceIte, and_true, true_and, and_false, false_and, and_self, or_true, true_or, or_false, false_or, or_self, not_true, not_false_iff], rfl⟩
      · skip
        refine R_aload_n1 (pc := 72) dX1_tellOfShip_72 ?_
        refine G_X1_73 (pc := 73) dX1_tellOfShip_73 (by assumption) ?_
        refine R_goto (pc := 76) 81 dX1_tellOfShip_76 (by decide) ?_
        refine R_iret (pc := 81) rfl rfl dX1_tellOfShip_81 ?_
        exact ⟨by simp (decide := true) only [k_tship, c_1, c_69, reduceCtorEq, if_true, if_false, reduceIte, and_true, true_and, and_false, false_and, and_self, or_true, true_or, or_false, false_or, or_self, not_true, not_false_iff], rfl⟩
    · skip
      refine R_swE (pc := 1) (v := 2) (off := 81) 82 dX1_tellOfShip_1 c_1 (by decide) (by decide) (by decide) (by decide) ?_
      refine R_aload_n1 (pc := 82) dX1_tellOfShip_82 ?_
      refine G_X1_108 (pc := 83) dX1_tellOfShip_83 (by assumption) ?_
      refine R_iret (pc := 86) rfl rfl dX1_tellOfShip_86 ?_
      exact ⟨by simp (decide := true) only [k_tship, c_1, reduceCtorEq, if_true, if_false, reduceIte, and_true, true_and, and_false, false_and, and_self, or_true, true_or, or_false, false_or, or_self, not_true, not_false_iff], rfl⟩
    · skip
      refine R_swE (pc := 1) (v := 3) (off := 86) 87 dX1_tellOfShip_1 c_1 (by decide) (by decide) (by decide) (by decide) ?_
      refine R_aload_n1 (pc := 87) dX1_tellOfShip_87 ?_
      refine G_X1_111 (pc := 88) dX1_tellOfShip_88 (by assumption) ?_
      refine R_iret (pc := 91) rfl rfl dX1_tellOfShip_91 ?_
      exact ⟨by simp (decide := true) only [k_tship, c_1, reduceCtorEq, if_true, if_false, reduceIte, and_true, true_and, and_false, false_and, and_self, or_true, true_or, or_false, false_or, or_self, not_true, not_false_iff], rfl⟩
    · skip
      refine R_swE (pc := 1) (v := 4) (off := 91) 92 dX1_tellOfShip_1 c_1 (by decide) (by decide) (by decide) (by decide) ?_
      refine R_aload_n1 (pc := 92) dX1_tellOfShip_92 ?_
      refine G_X1_114 (pc := 93) dX1_tellOfShip_93 (by assumption) ?_
      refine R_iret (pc := 96) rfl rfl dX1_tellOfShip_96 ?_
      exact ⟨by simp (decide := true) only [k_tship, c_1, reduceCtorEq, if_true, if_false, reduceIte, and_true, true_and, and_false, false_and, and_self, or_true, true_or, or_false, false_or, or_self, not_true, not_false_iff], rfl⟩
    · skip
      refine R_swE (pc := 1) (v := 5) (off := 96) 97 dX1_tellOfShip_1 c_1 (by decide) (by decide) (by decide) (by decide) ?_
      refine R_aload_n1 (pc := 97) dX1_tellOfShip_97 ?_
      refine G_X1_117 (pc := 98) dX1_tellOfShip_98 (by assumption) ?_
      refine R_iret (pc := 101) rfl rfl dX1_tellOfShip_101 ?_
      exact ⟨by simp (decide := true) only [k_tship, c_1, reduceCtorEq, if_true, if_false, reduceIte, and_true, true_and, and_false, false_and, and_self, or_true, true_or, or_false, false_or, or_self, not_true, not_false_iff], rfl⟩
    · skip
      refine R_swE (pc := 1) (v := 6) (off := 101) 102 dX1_tellOfShip_1 c_1 (by decide) (by decide) (by decide) (by decide) ?_
      refine R_aload_n1 (pc := 102) dX1_tellOfShip_102 ?_
      refine G_X1_120 (pc := 103) dX1_tellOfShip_103 (by assumption) ?_
      refine R_iret (pc := 106) rfl rfl dX1_tellOfShip_106 ?_
      exact ⟨by simp (decide := true) only [k_tship, c_1, reduceCtorEq, if_true, if_false, reduceIte, and_true, true_and, and_false, false_and, and_self, or_true, true_or, or_false, false_or, or_self, not_true, not_false_iff], rfl⟩
    · skip
      refine R_swE (pc := 1) (v := 7) (off := 106) 107 dX1_tellOfShip_1 c_1 (by decide) (by decide) (by decide) (by decide) ?_
      refine R_aload_n1 (pc := 107) dX1_tellOfShip_107 ?_
      refine G_X1_223 (pc := 108) dX1_tellOfShip_108 (by assumption) ?_
      refine R_iret (pc := 111) rfl rfl dX1_tellOfShip_111 ?_
      exact ⟨by simp (decide := true) only [k_tship, c_1, reduceCtorEq, if_true, if_false, reduceIte, and_true, true_and, and_false, false_and, and_self, or_true, true_or, or_false, false_or, or_self, not_true, not_false_iff], rfl⟩
    · skip
      refine R_swE (pc := 1) (v := 8) (off := 111) 112 dX1_tellOfShip_1 c_1 (by decide) (by decide) (by decide) (by decide) ?_
      refine R_aload_n0 (pc := 112) dX1_tellOfShip_112 ?_
      refine R_aload_n1 (pc := 113) dX1_tellOfShip_113 ?_
      refine R_callV1 (pc := 114) (T := TX1) cal_X1_stepsNow kw449 kw450 kw451 dX1_tellOfShip_114 (c_X1_stepsNow (by assumption) (by assumption)) (by decide) (Nat.le_of_ble_eq_true rfl) (ci := 1) rfl (by assumption) ?_
      rintro _ _ ⟨rfl, rfl⟩
      refine R_iret (pc := 117) rfl rfl dX1_tellOfShip_117 ?_
      exact ⟨by simp (decide := true) only [k_tship, c_1, reduceCtorEq, if_true, if_false, reduceIte, and_true, true_and, and_false, false_and, and_self, or_true, true_or, or_false, false_or, or_self, not_true, not_false_iff], rfl⟩
    · skip
      refine R_swE (pc := 1) (v := 9) (off := 117) 118 dX1_tellOfShip_1 c_1 (by decide) (by decide) (by decide) (by decide) ?_
      refine R_aload_n1 (pc := 118) dX1_tellOfShip_118 ?_
      refine R_aload_n0 (pc := 119) dX1_tellOfShip_119 ?_
      refine G_X1_40 (pc := 120) dX1_tellOfShip_120 (by assumption) ?_
      refine R_callV1 (pc := 123) (T := TX7) cal_X7_reloadingSides kw467 kw468 kw469 dX1_tellOfShip_123 (c_X7_reloadingSides (by assumption)) (by decide) (Nat.le_of_ble_eq_true rfl) (ci := 5) rfl (by assumption) ?_
      rintro _ _ ⟨rfl, rfl⟩
      refine R_iret (pc := 126) rfl rfl dX1_tellOfShip_126 ?_
      exact ⟨by simp (decide := true) only [k_tship, c_1, reduceCtorEq, if_true, if_false, reduceIte, and_true, true_and, and_false, false_and, and_self, or_true, true_or, or_false, false_or, or_self, not_true, not_false_iff], rfl⟩
    · skip
      refine R_swE (pc := 1) (v := 10) (off := 126) 127 dX1_tellOfShip_1 c_1 (by decide) (by decide) (by decide) (by decide) ?_
      refine R_aload_n1 (pc := 127) dX1_tellOfShip_127 ?_
      refine G_X1_186 (pc := 128) dX1_tellOfShip_128 (by assumption) ?_
      refine R_iret (pc := 131) rfl rfl dX1_tellOfShip_131 ?_
      exact ⟨by simp (decide := true) only [k_tship, c_1, reduceCtorEq, if_true, if_false, reduceIte, and_true, true_and, and_false, false_and, and_self, or_true, true_or, or_false, false_or, or_self, not_true, not_false_iff], rfl⟩

set_option maxHeartbeats 4000000 in
set_option maxRecDepth 100000 in
theorem c_X1_mendable {a : Nat} {A : Nat → Nat} {Fv : Nat → Int32} {w t : Int32} (ha : h.2 a = some (.inr (5, ob5 A Fv))) : Spec l D cA N0 m_X1_mendable 1 0 0 [.ref a, .int w, .int t] h (fun r h' => r = some (.int (k_mendable Fv w t)) ∧ h' = h) := by
  refine Spec.of (L := [some (.ref a), some (.int w), some (.int t)]) (by decide) rfl (Nat.le_of_ble_eq_true rfl) ?_
  refine R_iload_n1 (pc := 0) dX1_mendable_0 ?_
  refine R_if_ne (pc := 1) 25 dX1_mendable_1 (by decide) (fun c_1 => ?_) (fun c_1 => ?_)
  · skip
    refine R_iload_n1 (pc := 25) dX1_mendable_25 ?_
    refine R_iconst (pc := 26) (v := 1) dX1_mendable_26 (by decide) ?_
    refine R_icmp_ne (pc := 27) 50 dX1_mendable_27 (by decide) (fun c_27 => ?_) (fun c_27 => ?_)
    · skip
      refine R_aload_n0 (pc := 50) dX1_mendable_50 ?_
      refine G_X1_120 (pc := 51) dX1_mendable_51 (by assumption) ?_
      refine R_bipush (pc := 54) (v := 9) dX1_mendable_54 (by decide) ?_
      refine R_icmp_ge (pc := 56) 68 dX1_mendable_56 (by decide) (fun c_56 => ?_) (fun c_56 => ?_)
      · skip
        have d_56 := Int32.not_lt.mpr c_56
        refine R_iconst (pc := 68) (v := 0) dX1_mendable_68 (by decide) ?_
        refine R_iret (pc := 69) rfl rfl dX1_mendable_69 ?_
        exact ⟨by simp only [k_mendable, c_1, c_27, c_56, d_56, reduceCtorEq, if_true, if_false, reduceIte, and_true, true_and, and_false, false_and, and_self, or_true, true_or, or_false, false_or, or_self, not_true, not_false_iff] <;> rfl, rfl⟩
      · skip
        have d_56 := Int32.not_le.mp c_56
        refine R_iload_n2 (pc := 59) dX1_mendable_59 ?_
        refine R_iconst (pc := 60) (v := 3) dX1_mendable_60 (by decide) ?_
        refine R_icmp_lt (pc := 61) 68 dX1_mendable_61 (by decide) (fun c_61 => ?_) (fun c_61 => ?_)
        · skip
          have d_61 := Int32.not_le.mpr c_61
          refine R_iconst (pc := 68) (v := 0) dX1_mendable_68 (by decide) ?_
          refine R_iret (pc := 69) rfl rfl dX1_mendable_69 ?_
          exact ⟨by simp only [k_mendable, c_1, c_27, c_56, d_56, c_61, d_61, reduceCtorEq, if_true, if_false, reduceIte, and_true, true_and, and_false, false_and, and_self, or_true, true_or, or_false, false_or, or_self, not_true, not_false_iff] <;> rfl, rfl⟩
        · skip
          have d_61 := Int32.not_lt.mp c_61
          refine R_iconst (pc := 64) (v := 1) dX1_mendable_64 (by decide) ?_
          refine R_goto (pc := 65) 69 dX1_mendable_65 (by decide) ?_
          refine R_iret (pc := 69) rfl rfl dX1_mendable_69 ?_
          exact ⟨by simp only [k_mendable, c_1, c_27, c_56, d_56, c_61, d_61, reduceCtorEq, if_true, if_false, reduceIte, and_true, true_and, and_false, false_and, and_self, or_true, true_or, or_false, false_or, or_self, not_true, not_false_iff] <;> rfl, rfl⟩
    · skip
      refine R_aload_n0 (pc := 30) dX1_mendable_30 ?_
      refine G_X1_114 (pc := 31) dX1_mendable_31 (by assumption) ?_
      refine R_bipush (pc := 34) (v := 8) dX1_mendable_34 (by decide) ?_
      refine R_icmp_ge (pc := 36) 48 dX1_mendable_36 (by decide) (fun c_36 => ?_) (fun c_36 => ?_)
      · skip
        have d_36 := Int32.not_lt.mpr c_36
        refine R_iconst (pc := 48) (v := 0) dX1_mendable_48 (by decide) ?_
        refine R_iret (pc := 49) rfl rfl dX1_mendable_49 ?_
        exact ⟨by simp only [k_mendable, c_1, c_27, c_36, d_36, reduceCtorEq, if_true, if_false, reduceIte, and_true, true_and, and_false, false_and, and_self, or_true, true_or, or_false, false_or, or_self, not_true, not_false_iff] <;> rfl, rfl⟩
      · skip
        have d_36 := Int32.not_le.mp c_36
        refine R_iload_n2 (pc := 39) dX1_mendable_39 ?_
        refine R_iconst (pc := 40) (v := 2) dX1_mendable_40 (by decide) ?_
        refine R_icmp_lt (pc := 41) 48 dX1_mendable_41 (by decide) (fun c_41 => ?_) (fun c_41 => ?_)
        · skip
          have d_41 := Int32.not_le.mpr c_41
          refine R_iconst (pc := 48) (v := 0) dX1_mendable_48 (by decide) ?_
          refine R_iret (pc := 49) rfl rfl dX1_mendable_49 ?_
          exact ⟨by simp only [k_mendable, c_1, c_27, c_36, d_36, c_41, d_41, reduceCtorEq, if_true, if_false, reduceIte, and_true, true_and, and_false, false_and, and_self, or_true, true_or, or_false, false_or, or_self, not_true, not_false_iff] <;> rfl, rfl⟩
        · skip
          have d_41 := Int32.not_lt.mp c_41
          refine R_iconst (pc := 44) (v := 1) dX1_mendable_44 (by decide) ?_
          refine R_goto (pc := 45) 49 dX1_mendable_45 (by decide) ?_
          refine R_iret (pc := 49) rfl rfl dX1_mendable_49 ?_
          exact ⟨by simp only [k_mendable, c_1, c_27, c_36, d_36, c_41, d_41, reduceCtorEq, if_true, if_false, reduceIte, and_true, true_and, and_false, false_and, and_self, or_true, true_or, or_false, false_or, or_self, not_true, not_false_iff] <;> rfl, rfl⟩
  · skip
    refine R_iload_n2 (pc := 4) dX1_mendable_4 ?_
    refine R_aload_n0 (pc := 5) dX1_mendable_5 ?_
    refine G_X1_117 (pc := 6) dX1_mendable_6 (by assumption) ?_
    refine R_iconst (pc := 9) (v := 4) dX1_mendable_9 (by decide) ?_
    refine R_idiv (pc := 10) dX1_mendable_10 (by decide) ?_
    refine R_bipush (pc := 11) (v := 20) dX1_mendable_11 (by decide) ?_
    refine R_aload_n0 (pc := 13) dX1_mendable_13 ?_
    refine G_X1_111 (pc := 14) dX1_mendable_14 (by assumption) ?_
    refine R_isub (pc := 17) dX1_mendable_17 ?_
    refine R_mmin (pc := 18) kw675 dX1_mendable_18 (by decide) rfl (by decide) (by decide) ?_
    refine R_mmin (pc := 21) kw675 dX1_mendable_21 (by decide) rfl (by decide) (by decide) ?_
    refine R_iret (pc := 24) rfl rfl dX1_mendable_24 ?_
    exact ⟨by simp only [k_mendable, c_1, reduceCtorEq, if_true, if_false, reduceIte, and_true, true_and, and_false, false_and, and_self, or_true, true_or, or_false, false_or, or_self, not_true, not_false_iff] <;> rfl, rfl⟩





end LV7
