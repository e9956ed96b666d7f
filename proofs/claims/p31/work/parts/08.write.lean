/-! THE GAME's writing methods -/
section GST
variable {h h1 h2 : AH} {g : Nat} {G G2 : Gm}
theorem gAt (q : h1 = gput h g G) : GmAt h1 g G := by rw [q]; exact gput_at h g G
theorem gstep_g {k : Nat} {v : Int32} (q : h1 = gput h g G) (e : h2 = hput h1 g (.inr (1, ob1 (gA g) (upd G.1 k v)))) (hk : k < 6) : h2 = gput h g (sG G k v) := by
  rw [e, hput_g (gAt q) hk, q, gput_gput]
theorem gstep_i {f : Nat → Int32} (q : h1 = gput h g G) (e : h2 = hput h1 (gA g 8) (.inl (0, 81, .inl f))) : h2 = gput h g (sI G f) := by
  rw [e, hput_i (gAt q), q, gput_gput]
theorem gstep_s {i : Nat} {A : Nat → Nat} {F : Nat → Int32} (q : h1 = gput h g G) (e : h2 = hput h1 (sad g i) (.inr (5, ob5 A F))) (hi : i < 8) (h0 : F 0 = nI i) : h2 = gput h g (sS G i F) := by
  rw [e, hput_s (gAt q) hi h0, q, gput_gput]
theorem gstep_c {x : Int32} {A : Nat → Nat} {F : Nat → Int32} (q : h1 = gput h g G) (e : h2 = hput h1 (cad g x) (.inr (0, ob0 A F))) : h2 = gput h g (sC G (cix x) F) := by
  rw [e, hput_c (gAt q), q, gput_gput]
theorem gstep_c0 {A : Nat → Nat} {F : Nat → Int32} (q : h1 = gput h g G) (e : h2 = hput h1 (gA g 6) (.inr (0, ob0 A F))) : h2 = gput h g (sC G 0 F) := by
  rw [e, hput_c0 (gAt q), q, gput_gput]
theorem gstep_c1 {A : Nat → Nat} {F : Nat → Int32} (q : h1 = gput h g G) (e : h2 = hput h1 (gA g 7) (.inr (0, ob0 A F))) : h2 = gput h g (sC G 1 F) := by
  rw [e, hput_c1 (gAt q), q, gput_gput]
theorem gstep_G (q : h1 = gput h g G) (e : h2 = gput h1 g G2) : h2 = gput h g G2 := by
  rw [e, q, gput_gput]
end GST
def sF (G : Gm) (i j : Nat) (v : Int32) : Gm := sS G i (upd (shF G i) j v)
def sK (G : Gm) (c j : Nat) (v : Int32) : Gm := sC G c (upd (cF G c) j v)
theorem k_note_0 (F : Nat → Int32) (s t : Int32) : k_note F s t 0 = F 0 := by
  unfold k_note
  split <;> rfl
def k_place (G : Gm) (x v : Int32) : Int32 × Gm := if (0 ≤ x ∧ x < 81) ∧ 0 ≤ v ∧ v ≤ 1 then (if k_on G x = none then (k_isls (sI G (upd G.2.1 x.toNatClampNeg v)), sI G (upd G.2.1 x.toNatClampNeg v)) else (-2, G)) else (-1, G)
def k_lsets (G : Gm) (n : Nat) (c x d s r u : Int32) : Gm := sF (sF (sF (sF (sF (sF (sF G n 1 c) n 2 x) n 3 d) n 4 20) n 5 s) n 6 r) n 7 u
def k_launch (G : Gm) (n : Nat) (c x d s r u : Int32) : Int32 × Gm := if (c = 0 ∨ c = 1) ∧ (0 ≤ x ∧ x < 81) ∧ (0 ≤ d ∧ d < 6) ∧ 1 ≤ s ∧ s ≤ 8 ∧ 1 ≤ r ∧ r ≤ 40 ∧ 0 ≤ u ∧ u ≤ 9 then (if k_free G x = true then (if G.1 4 < 8 then (nI n, sG (k_lsets G n c x d s r u) 4 (G.1 4 + 1)) else (-3, G)) else (-2, G)) else (-1, G)
def k_timber (G : Gm) (c t : Int32) : Int32 × Gm := if (c = 0 ∨ c = 1) ∧ 0 ≤ t ∧ t ≤ 99 then (cF G (cix c) 2, sK G (cix c) 2 t) else (-1, G)
def k_lay (F : Nat → Int32) : Nat → Int32 :=
  let F1 := if k_hold (F 0) (F 1) = true then upd F 0 (F 0 - 1 <<< (F 1 &&& 31)) else F
  let F2 := upd F1 1 (-9)
  if F2 0 = 0 then upd F2 0 63 else F2
def k_begin (G : Gm) : Gm :=
  let s := cF G 0 1 + cF G 1 1
  let G1 := sG G 2 (k_dir G s)
  let G2 := sG G1 3 (k_str s)
  let G3 := sC G2 0 (k_lay (cF G2 0))
  let G4 := sC G3 1 (k_lay (cF G3 1))
  sG G4 1 1
def k_told1 (G : Gm) (c x : Int32) : Gm := if cF (sK G (cix c) 1 x) 0 1 = -9 ∨ cF (sK G (cix c) 1 x) 1 1 = -9 then sK G (cix c) 1 x else k_begin (sK G (cix c) 1 x)
def k_tell (G : Gm) (c x : Int32) : Int32 × Gm := if (c = 0 ∨ c = 1) ∧ (0 ≤ x ∧ x < 6) then (if ¬ G.1 1 = 0 ∨ ¬ cF G (cix c) 1 = -9 ∨ ¬ k_hold (cF G (cix c) 0) x = true then (-2, G) else (k_told (k_told1 G c x), k_told1 G c x)) else (-1, G)
def k_rel (G : Gm) (i : Nat) : Gm := match k_known G (shF G i 8) with
  | none => sF G i 8 (-9)
  | some j => sF (sF G j 8 (-9)) i 8 (-9)
def k_capt (G : Gm) (w p : Nat) : Gm :=
  let v := shF G w 6 / 2
  let G1 := sF G w 6 (shF G w 6 - v)
  let G2 := sF G1 p 6 (shF G1 p 6 + v)
  let G3 := sF G2 p 1 (shF G2 w 1)
  sG G3 5 (G3.1 5 + 1)
def k_fgt1 (G : Gm) (u v : Nat) : Gm :=
  let G1 := sF G u 6 (kmax 0 (shF G u 6 - (shF G v 6 + 3) / 4))
  sF G1 v 6 (kmax 0 (shF G1 v 6 - (shF G u 6 + 3) / 4))
def k_fgt2 (G : Gm) (u v : Nat) : Gm := if 0 < shF G u 6 then (if 0 < shF G v 6 then G else k_rel (k_capt G u v) u) else if 0 < shF G v 6 then k_rel (k_capt G v u) u else k_rel G u
def k_fight (G : Gm) (u v : Nat) : Gm := k_fgt2 (k_fgt1 G u v) u v
def k_cut (G : Gm) (a : Int32) : Int32 × Gm := match k_known G a with
  | none => (-1, G)
  | some u => match k_known G (shF G u 8) with
    | none => (-2, G)
    | some v => if G.1 1 = 0 ∨ shF G u 6 < shF G v 6 then (-2, G) else (shF (k_rel G u) v 0, k_rel G u)
def k_gset (G : Gm) (u v : Nat) : Gm := sF (sF G u 8 (shF G v 0)) v 8 (shF (sF G u 8 (shF G v 0)) u 0)
def k_grap (G : Gm) (a b : Int32) : Int32 × Gm := match k_known G a with
  | none => (-1, G)
  | some u => match k_known G b with
    | none => (-1, G)
    | some v => if a = b then (-1, G) else if (G.1 1 = 0 ∨ ¬ 0 < shF G u 4 ∨ ¬ 0 < shF G v 4 ∨ ¬ shF G u 8 = -9 ∨ ¬ shF G v 8 = -9) ∨ shF G u 1 = shF G v 1 ∨ ¬ k_nbr (shF G u 2) (shF G v 2) 6 = true ∨ 2 * shF G u 6 < shF G v 6 then (-2, G) else (shF (k_gset G u v) u 6 + shF (k_gset G u v) v 6, k_gset G u v)
def k_fsets (G : Gm) (u v : Nat) (s t : Int32) : Gm :=
  let G1 := sS G v (k_suffer (shF G v) t)
  let G2 := if 0 < shF G1 v 4 then G1 else k_rel G1 v
  sS G2 u (k_note (shF G2 u) s (G2.1 0))
def k_fire (G : Gm) (a s b : Int32) : Int32 × Gm := match k_known G a with
  | none => (-1, G)
  | some u => match k_known G b with
    | none => (-1, G)
    | some v => if a = b ∨ ¬ (s = 0 ∨ s = 1) then (-1, G) else if G.1 1 = 0 ∨ ¬ 0 < shF G u 4 ∨ (G.1 0 < if s = 0 then shF G u 9 else shF G u 10) ∨ k_shot G u s v = 0 then (-2, G) else (k_hits (shF G u) (k_shot G u s v), k_fsets G u v s (k_hits (shF G u) (k_shot G u s v)))
def k_madd (G : Gm) (u : Nat) (w t : Int32) : Gm := if w = 0 then sF G u 4 (shF G u 4 + t) else if w = 1 then sF G u 5 (shF G u 5 + t) else sF G u 7 (shF G u 7 + t)
def k_msets (G : Gm) (u : Nat) (w t : Int32) : Gm :=
  let G1 := k_madd G u w t
  let G2 := sK G1 (cix (shF G u 1)) 2 (cF G1 (cix (shF G u 1)) 2 - t * (w + 1))
  sF G2 u 11 (shF G2 u 11 ||| 4)
def k_mamt (G : Gm) (u : Nat) (w : Int32) : Int32 := k_mendable (shF G u) w (cF G (cix (shF G u 1)) 2)
def k_mend (G : Gm) (a w : Int32) : Int32 × Gm := match k_known G a with
  | none => (-1, G)
  | some u => if 0 ≤ w ∧ w ≤ 2 then (if G.1 1 = 0 ∨ ¬ 0 < shF G u 4 ∨ ¬ shF G u 8 = -9 ∨ ¬ shF G u 11 = 0 ∨ k_mamt G u w ≤ 0 then (-2, G) else (k_mamt G u w, k_msets G u w (k_mamt G u w))) else (-1, G)
def k_go (G : Gm) (u p : Nat) : Nat → Int32 → Int32 → Option (Int32 × Int32)
  | 0, x, d => some (x, d)
  | n + 1, x, d =>
    let e := k_turn d (nI (p / 10 ^ n % 10))
    let y := if nI (p / 10 ^ n % 10) = 1 then k_ahead G u x e else x
    if y = -9 then none else k_go G u p n y e
theorem k_go_s (G : Gm) (u p n : Nat) (x d : Int32) : k_go G u p (n + 1) x d = if (if nI (p / 10 ^ n % 10) = 1 then k_ahead G u x (k_turn d (nI (p / 10 ^ n % 10))) else x) = -9 then none else k_go G u p n (if nI (p / 10 ^ n % 10) = 1 then k_ahead G u x (k_turn d (nI (p / 10 ^ n % 10))) else x) (k_turn d (nI (p / 10 ^ n % 10))) := rfl
def k_sfin (G : Gm) (u : Nat) (r : Option (Int32 × Int32)) : Int32 × Gm := match r with
  | none => (-2, G)
  | some q => (q.1, sF (sF (sF G u 2 q.1) u 3 q.2) u 11 (shF (sF (sF G u 2 q.1) u 3 q.2) u 11 ||| 1))
def k_sail (G : Gm) (a p : Int32) : Int32 × Gm := match k_known G a with
  | none => (-1, G)
  | some u => if k_pok p = true then (if G.1 1 = 0 ∨ ¬ 0 < shF G u 4 ∨ ¬ shF G u 11 &&& 1 = 0 ∨ k_now G u < nI (nd p.toNatClampNeg) then (-2, G) else k_sfin G u (k_go G u p.toNatClampNeg (nd p.toNatClampNeg) (shF G u 2) (shF G u 3))) else (-1, G)
def kg (f : Gm → Nat → Gm) : Gm → Nat → Nat → Gm
  | G, _, 0 => G
  | G, i, n + 1 => kg f (f G i) (i + 1) n
theorem kg_s (f : Gm → Nat → Gm) (G : Gm) (i n : Nat) : kg f G i (n + 1) = kg f (f G i) (i + 1) n := rfl
def k_f1 (G : Gm) (i : Nat) : Gm := match k_known G (shF G i 8) with
  | none => G
  | some v => if shF G i 0 < shF G v 0 then k_fight G i v else G
def k_f2 (G : Gm) (i : Nat) : Gm := sF G i 11 0
def k_turnover (G : Gm) : Gm := sG (sG G 1 0) 0 ((sG G 1 0).1 0 + 1)
def k_end (G : Gm) : Int32 × Gm := if G.1 1 = 0 then (-2, G) else ((k_turnover (kg k_f2 (kg k_f1 G 0 8) 0 8)).1 0, k_turnover (kg k_f2 (kg k_f1 G 0 8) 0 8))
section LV8
variable {l : Launch} {D : va_G} {cA : Nat → ClassId} {N0 : Nat} {h : AH} {g : Nat} {G : Gm}
set_option maxHeartbeats 4000000 in
set_option maxRecDepth 100000 in
theorem c_X0_layDownCard {a : Nat} {A : Nat → Nat} {Fv : Nat → Int32} (ha : h.2 a = some (.inr (0, ob0 A Fv))) : Spec l D cA N0 m_X0_layDownCard 2 0 0 [.ref a] h (fun r h' => r = none ∧ h' = hput h a (.inr (0, ob0 A (k_lay Fv)))) := by
  refine Spec.of (L := [some (.ref a)]) (by decide) rfl (Nat.le_of_ble_eq_true rfl) ?_
  refine R_aload_n0 (pc := 0) dX0_layDownCard_0 ?_
  refine R_aload_n0 (pc := 1) dX0_layDownCard_1 ?_
  refine G_X0_15 (pc := 2) dX0_layDownCard_2 (by assumption) ?_
  refine R_callV1 (pc := 5) (T := TX0) cal_X0_holds kw717 kw703 kw704 dX0_layDownCard_5 (c_X0_holds (by assumption)) (by decide) (Nat.le_of_ble_eq_true rfl) (ci := 0) rfl (by assumption) ?_
  rintro _ _ ⟨rfl, rfl⟩
  refine R_ifb_eq (pc := 8) 26 dX0_layDownCard_8 (by decide) (fun c_8 => ?_) (fun c_8 => ?_)
  · skip
    refine R_aload_n0 (pc := 26) dX0_layDownCard_26 ?_
    refine R_bipush (pc := 27) (v := (-9)) dX0_layDownCard_27 (by decide) ?_
    refine P_X0_15 (pc := 29) dX0_layDownCard_29 (by assumption) (fun h1 e1 f1 => ?_)
    refine R_aload_n0 (pc := 32) dX0_layDownCard_32 ?_
    refine G_X0_11 (pc := 33) dX0_layDownCard_33 (by assumption) ?_
    refine R_if_ne (pc := 36) 45 dX0_layDownCard_36 (by decide) (fun c_36 => ?_) (fun c_36 => ?_)
    · skip
      refine R_vret (pc := 45) rfl dX0_layDownCard_45 ?_
      refine ⟨rfl, ?_⟩
      rw [e1]
      try simp only [hput_hput]
      refine congrArg (fun z => hput _ a (Sum.inr (0, ob0 A z))) ?_
      simp (decide := true) only [k_lay, c_8, c_36, reduceCtorEq, if_true, if_false, reduceIte, and_true, true_and, and_false, false_and, and_self, or_true, true_or, or_false, false_or, or_self, not_true, not_false_iff]
    · skip
      refine R_aload_n0 (pc := 39) dX0_layDownCard_39 ?_
      refine R_bipush (pc := 40) (v := 63) dX0_layDownCard_40 (by decide) ?_
      refine P_X0_11 (pc := 42) dX0_layDownCard_42 (by assumption) (fun h2 e2 f2 => ?_)
      refine R_vret (pc := 45) rfl dX0_layDownCard_45 ?_
      refine ⟨rfl, ?_⟩
      rw [e2, e1]
      try simp only [hput_hput]
      refine congrArg (fun z => hput _ a (Sum.inr (0, ob0 A z))) ?_
      simp (decide := true) only [k_lay, c_8, c_36, reduceCtorEq, if_true, if_false, reduceIte, and_true, true_and, and_false, false_and, and_self, or_true, true_or, or_false, false_or, or_self, not_true, not_false_iff]
  · skip
    refine R_aload_n0 (pc := 11) dX0_layDownCard_11 ?_
    refine R_dup (pc := 12) dX0_layDownCard_12 rfl ?_
    refine G_X0_11 (pc := 13) dX0_layDownCard_13 (by assumption) ?_
    refine R_iconst (pc := 16) (v := 1) dX0_layDownCard_16 (by decide) ?_
    refine R_aload_n0 (pc := 17) dX0_layDownCard_17 ?_
    refine G_X0_15 (pc := 18) dX0_layDownCard_18 (by assumption) ?_
    refine R_ishl (pc := 21) dX0_layDownCard_21 ?_
    refine R_isub (pc := 22) dX0_layDownCard_22 ?_
    refine P_X0_11 (pc := 23) dX0_layDownCard_23 (by assumption) (fun h3 e3 f3 => ?_)
    refine R_aload_n0 (pc := 26) dX0_layDownCard_26 ?_
    refine R_bipush (pc := 27) (v := (-9)) dX0_layDownCard_27 (by decide) ?_
    refine P_X0_15 (pc := 29) dX0_layDownCard_29 (by assumption) (fun h4 e4 f4 => ?_)
    refine R_aload_n0 (pc := 32) dX0_layDownCard_32 ?_
    refine G_X0_11 (pc := 33) dX0_layDownCard_33 (by assumption) ?_
    refine R_if_ne (pc := 36) 45 dX0_layDownCard_36 (by decide) (fun c_36 => ?_) (fun c_36 => ?_)
    · skip
      refine R_vret (pc := 45) rfl dX0_layDownCard_45 ?_
      refine ⟨rfl, ?_⟩
      rw [e4, e3]
      try simp only [hput_hput]
      refine congrArg (fun z => hput _ a (Sum.inr (0, ob0 A z))) ?_
      simp (decide := true) only [k_lay, c_8, c_36, reduceCtorEq, if_true, if_false, reduceIte, and_true, true_and, and_false, false_and, and_self, or_true, true_or, or_false, false_or, or_self, not_true, not_false_iff]
    · skip
      refine R_aload_n0 (pc := 39) dX0_layDownCard_39 ?_
      refine R_bipush (pc := 40) (v := 63) dX0_layDownCard_40 (by decide) ?_
      refine P_X0_11 (pc := 42) dX0_layDownCard_42 (by assumption) (fun h5 e5 f5 => ?_)
      refine R_vret (pc := 45) rfl dX0_layDownCard_45 ?_
      refine ⟨rfl, ?_⟩
      rw [e5, e4, e3]
      try simp only [hput_hput]
      refine congrArg (fun z => hput _ a (Sum.inr (0, ob0 A z))) ?_
      simp (decide := true) only [k_lay, c_8, c_36, reduceCtorEq, if_true, if_false, reduceIte, and_true, true_and, and_false, false_and, and_self, or_true, true_or, or_false, false_or, or_self, not_true, not_false_iff]

set_option maxHeartbeats 4000000 in
set_option maxRecDepth 100000 in
theorem c_X1_placeIsland (hG : GmAt h g G) {x v : Int32} : Spec l D cA N0 m_X1_placeIsland 2 0 0 [.ref g, .int x, .int v] h (fun r h' => r = some (.int (k_place G x v).1) ∧ h' = gput h g (k_place G x v).2) := by
  refine Spec.of (L := [some (.ref g), some (.int x), some (.int v)]) (by decide) rfl (Nat.le_of_ble_eq_true rfl) ?_
  have go := hG.o0
  have gc0 := hG.c0
  have gc1 := hG.c1
  have gi := hG.is
  have gs := hG.sa
  have q0 := (gput_self hG).symm
  refine R_iload_n1 (pc := 0) dX1_placeIsland_0 ?_
  refine R_callS1 (pc := 1) cal_X2_exists kw404 kw405 dX1_placeIsland_1 c_X2_exists (by decide) (Nat.le_of_ble_eq_true rfl) ?_
  rintro _ _ ⟨rfl, rfl⟩
  refine R_ifb_eq (pc := 4) 16 dX1_placeIsland_4 (by decide) (fun c_4 => ?_) (fun c_4 => ?_)
  · skip
    refine R_iconst (pc := 16) (v := (-1)) dX1_placeIsland_16 (by decide) ?_
    refine R_iret (pc := 17) rfl rfl dX1_placeIsland_17 ?_
    exact ⟨by simp (decide := true) only [k_place, c_4, reduceCtorEq, if_true, if_false, reduceIte, and_true, true_and, and_false, false_and, and_self, or_true, true_or, or_false, false_or, or_self, not_true, not_false_iff]; try rfl, q0.trans (congrArg (gput _ g) (by simp (decide := true) only [k_place, c_4, reduceCtorEq, if_true, if_false, reduceIte, and_true, true_and, and_false, false_and, and_self, or_true, true_or, or_false, false_or, or_self, not_true, not_false_iff]; try rfl))⟩
  · skip
    refine R_iload_n2 (pc := 7) dX1_placeIsland_7 ?_
    refine R_if_lt (pc := 8) 16 dX1_placeIsland_8 (by decide) (fun c_8 => ?_) (fun c_8 => ?_)
    · skip
      have d_8 := Int32.not_le.mpr c_8
      refine R_iconst (pc := 16) (v := (-1)) dX1_placeIsland_16 (by decide) ?_
      refine R_iret (pc := 17) rfl rfl dX1_placeIsland_17 ?_
      exact ⟨by simp (decide := true) only [k_place, c_4, c_8, d_8, reduceCtorEq, if_true, if_false, reduceIte, and_true, true_and, and_false, false_and, and_self, or_true, true_or, or_false, false_or, or_self, not_true, not_false_iff]; try rfl, q0.trans (congrArg (gput _ g) (by simp (decide := true) only [k_place, c_4, c_8, d_8, reduceCtorEq, if_true, if_false, reduceIte, and_true, true_and, and_false, false_and, and_self, or_true, true_or, or_false, false_or, or_self, not_true, not_false_iff]; try rfl))⟩
    · skip
      have d_8 := Int32.not_lt.mp c_8
      refine R_iload_n2 (pc := 11) dX1_placeIsland_11 ?_
      refine R_iconst (pc := 12) (v := 1) dX1_placeIsland_12 (by decide) ?_
      refine R_icmp_le (pc := 13) 18 dX1_placeIsland_13 (by decide) (fun c_13 => ?_) (fun c_13 => ?_)
      · skip
        have d_13 := Int32.not_lt.mpr c_13
        refine R_aload_n0 (pc := 18) dX1_placeIsland_18 ?_
        refine R_iload_n1 (pc := 19) dX1_placeIsland_19 ?_
        refine R_callV1 (pc := 20) (T := TX1) cal_X1_shipOn kw407 kw409 kw7 dX1_placeIsland_20 (c_X1_shipOn (by assumption)) (by decide) (Nat.le_of_ble_eq_true rfl) (ci := 1) rfl (by assumption) ?_
        rintro _ _ ⟨⟨z20, hz20, rfl⟩, rfl⟩
        rcases k_on_cases _ _ with oz20 | ⟨o20, ol20, oh20, oz20⟩ <;> (rw [oz20] at hz20; subst hz20)
        · skip
          refine R_ifnullN (pc := 23) 29 dX1_placeIsland_23 (by decide) ?_
          refine R_aload_n0 (pc := 29) dX1_placeIsland_29 ?_
          refine G_X1_27 (pc := 30) dX1_placeIsland_30 (by assumption) ?_
          refine R_iload_n1 (pc := 33) dX1_placeIsland_33 ?_
          refine R_iload_n2 (pc := 34) dX1_placeIsland_34 ?_
          refine R_iastF (pc := 35) dX1_placeIsland_35 (by assumption) (in_x (by decide) c_4.1 (show x < nI 81 from c_4.2)) (fun h1 e1 f1 => ?_)
          have q1 := gstep_i q0 e1
          have hG1 := gAt q1
          have go1 := hG1.o0
          have gca1 := hG1.c0
          have gcb1 := hG1.c1
          have gi1 := hG1.is
          have gs1 := hG1.sa
          refine R_aload_n0 (pc := 36) dX1_placeIsland_36 ?_
          refine R_callV0 (pc := 37) (T := TX1) cal_X1_islandCount kw373 kw375 kw6 dX1_placeIsland_37 (c_X1_islandCount (by assumption)) (by decide) (Nat.le_of_ble_eq_true rfl) (ci := 1) rfl (by assumption) ?_
          rintro _ _ ⟨rfl, rfl⟩
          refine R_iret (pc := 40) rfl rfl dX1_placeIsland_40 ?_
          exact ⟨by simp (decide := true) only [k_place, c_4, c_8, d_8, c_13, d_13, oz20, reduceCtorEq, if_true, if_false, reduceIte, and_true, true_and, and_false, false_and, and_self, or_true, true_or, or_false, false_or, or_self, not_true, not_false_iff]; try rfl, q1.trans (congrArg (gput _ g) (by simp (decide := true) only [k_place, c_4, c_8, d_8, c_13, d_13, oz20, reduceCtorEq, if_true, if_false, reduceIte, and_true, true_and, and_false, false_and, and_self, or_true, true_or, or_false, false_or, or_self, not_true, not_false_iff]; try rfl))⟩
        · skip
          have og20 := hG.sh ol20
          refine R_ifnull (pc := 23) dX1_placeIsland_23 ?_
          refine R_bipush (pc := 26) (v := (-2)) dX1_placeIsland_26 (by decide) ?_
          refine R_iret (pc := 28) rfl rfl dX1_placeIsland_28 ?_
          exact ⟨by simp (decide := true) only [k_place, c_4, c_8, d_8, c_13, d_13, oz20, reduceCtorEq, if_true, if_false, reduceIte, and_true, true_and, and_false, false_and, and_self, or_true, true_or, or_false, false_or, or_self, not_true, not_false_iff]; try rfl, q0.trans (congrArg (gput _ g) (by simp (decide := true) only [k_place, c_4, c_8, d_8, c_13, d_13, oz20, reduceCtorEq, if_true, if_false, reduceIte, and_true, true_and, and_false, false_and, and_self, or_true, true_or, or_false, false_or, or_self, not_true, not_false_iff]; try rfl))⟩
      · skip
        have d_13 := Int32.not_le.mp c_13
        refine R_iconst (pc := 16) (v := (-1)) dX1_placeIsland_16 (by decide) ?_
        refine R_iret (pc := 17) rfl rfl dX1_placeIsland_17 ?_
        exact ⟨by simp (decide := true) only [k_place, c_4, c_8, d_8, c_13, d_13, reduceCtorEq, if_true, if_false, reduceIte, and_true, true_and, and_false, false_and, and_self, or_true, true_or, or_false, false_or, or_self, not_true, not_false_iff]; try rfl, q0.trans (congrArg (gput _ g) (by simp (decide := true) only [k_place, c_4, c_8, d_8, c_13, d_13, reduceCtorEq, if_true, if_false, reduceIte, and_true, true_and, and_false, false_and, and_self, or_true, true_or, or_false, false_or, or_self, not_true, not_false_iff]; try rfl))⟩

set_option maxHeartbeats 4000000 in
set_option maxRecDepth 100000 in
theorem c_X1_launch (hG : GmAt h g G) {n : Nat} (hn : n ≤ 8) (hcn : G.1 4 = nI n) {c x d s w u : Int32} : Spec l D cA N0 m_X1_launch 3 0 0 [.ref g, .int c, .int x, .int d, .int s, .int w, .int u] h (fun r h' => r = some (.int (k_launch G n c x d s w u).1) ∧ h' = gput h g (k_launch G n c x d s w u).2) := by
  refine Spec.of (L := [some (.ref g), some (.int c), some (.int x), some (.int d), some (.int s), some (.int w), some (.int u), none]) (by decide) rfl (Nat.le_of_ble_eq_true rfl) ?_
  have go := hG.o0
  have gc0 := hG.c0
  have gc1 := hG.c1
  have gi := hG.is
  have gs := hG.sa
  have q0 := (gput_self hG).symm
  refine R_iload_n1 (pc := 0) dX1_launch_0 ?_
  refine R_callS1 (pc := 1) cal_X0_exists kw432 kw382 dX1_launch_1 c_X0_exists (by decide) (Nat.le_of_ble_eq_true rfl) ?_
  rintro _ _ ⟨rfl, rfl⟩
  refine R_ifb_eq (pc := 4) 59 dX1_launch_4 (by decide) (fun c_4 => ?_) (fun c_4 => ?_)
  · skip
    refine R_iconst (pc := 59) (v := (-1)) dX1_launch_59 (by decide) ?_
    refine R_iret (pc := 60) rfl rfl dX1_launch_60 ?_
    exact ⟨by simp (decide := true) only [k_launch, c_4, reduceCtorEq, if_true, if_false, reduceIte, and_true, true_and, and_false, false_and, and_self, or_true, true_or, or_false, false_or, or_self, not_true, not_false_iff]; try rfl, q0.trans (congrArg (gput _ g) (by simp (decide := true) only [k_launch, c_4, reduceCtorEq, if_true, if_false, reduceIte, and_true, true_and, and_false, false_and, and_self, or_true, true_or, or_false, false_or, or_self, not_true, not_false_iff]; try rfl))⟩
  · skip
    refine R_iload_n2 (pc := 7) dX1_launch_7 ?_
    refine R_callS1 (pc := 8) cal_X2_exists kw404 kw405 dX1_launch_8 c_X2_exists (by decide) (Nat.le_of_ble_eq_true rfl) ?_
    rintro _ _ ⟨rfl, rfl⟩
    refine R_ifb_eq (pc := 11) 59 dX1_launch_11 (by decide) (fun c_11 => ?_) (fun c_11 => ?_)
    · skip
      refine R_iconst (pc := 59) (v := (-1)) dX1_launch_59 (by decide) ?_
      refine R_iret (pc := 60) rfl rfl dX1_launch_60 ?_
      exact ⟨by simp (decide := true) only [k_launch, c_4, c_11, reduceCtorEq, if_true, if_false, reduceIte, and_true, true_and, and_false, false_and, and_self, or_true, true_or, or_false, false_or, or_self, not_true, not_false_iff]; try rfl, q0.trans (congrArg (gput _ g) (by simp (decide := true) only [k_launch, c_4, c_11, reduceCtorEq, if_true, if_false, reduceIte, and_true, true_and, and_false, false_and, and_self, or_true, true_or, or_false, false_or, or_self, not_true, not_false_iff]; try rfl))⟩
    · skip
      refine R_iload_n3 (pc := 14) dX1_launch_14 ?_
      refine R_callS1 (pc := 15) cal_X2_isDirection kw433 kw434 dX1_launch_15 c_X2_isDirection (by decide) (Nat.le_of_ble_eq_true rfl) ?_
      rintro _ _ ⟨rfl, rfl⟩
      refine R_ifb_eq (pc := 18) 59 dX1_launch_18 (by decide) (fun c_18 => ?_) (fun c_18 => ?_)
      · skip
        refine R_iconst (pc := 59) (v := (-1)) dX1_launch_59 (by decide) ?_
        refine R_iret (pc := 60) rfl rfl dX1_launch_60 ?_
        exact ⟨by simp (decide := true) only [k_launch, c_4, c_11, c_18, reduceCtorEq, if_true, if_false, reduceIte, and_true, true_and, and_false, false_and, and_self, or_true, true_or, or_false, false_or, or_self, not_true, not_false_iff]; try rfl, q0.trans (congrArg (gput _ g) (by simp (decide := true) only [k_launch, c_4, c_11, c_18, reduceCtorEq, if_true, if_false, reduceIte, and_true, true_and, and_false, false_and, and_self, or_true, true_or, or_false, false_or, or_self, not_true, not_false_iff]; try rfl))⟩
      · skip
        refine R_iload4 (pc := 21) dX1_launch_21 ?_
        refine R_iconst (pc := 23) (v := 1) dX1_launch_23 (by decide) ?_
        refine R_icmp_lt (pc := 24) 59 dX1_launch_24 (by decide) (fun c_24 => ?_) (fun c_24 => ?_)
        · skip
          have d_24 := Int32.not_le.mpr c_24
          refine R_iconst (pc := 59) (v := (-1)) dX1_launch_59 (by decide) ?_
          refine R_iret (pc := 60) rfl rfl dX1_launch_60 ?_
          exact ⟨by simp (decide := true) only [k_launch, c_4, c_11, c_18, c_24, d_24, reduceCtorEq, if_true, if_false, reduceIte, and_true, true_and, and_false, false_and, and_self, or_true, true_or, or_false, false_or, or_self, not_true, not_false_iff]; try rfl, q0.trans (congrArg (gput _ g) (by simp (decide := true) only [k_launch, c_4, c_11, c_18, c_24, d_24, reduceCtorEq, if_true, if_false, reduceIte, and_true, true_and, and_false, false_and, and_self, or_true, true_or, or_false, false_or, or_self, not_true, not_false_iff]; try rfl))⟩
        · skip
          have d_24 := Int32.not_lt.mp c_24
          refine R_iload4 (pc := 27) dX1_launch_27 ?_
          refine R_bipush (pc := 29) (v := 8) dX1_launch_29 (by decide) ?_
          refine R_icmp_gt (pc := 31) 59 dX1_launch_31 (by decide) (fun c_31 => ?_) (fun c_31 => ?_)
          · skip
            have d_31 := Int32.not_le.mpr c_31
            refine R_iconst (pc := 59) (v := (-1)) dX1_launch_59 (by decide) ?_
            refine R_iret (pc := 60) rfl rfl dX1_launch_60 ?_
            exact ⟨by simp (decide := true) only [k_launch, c_4, c_11, c_18, c_24, d_24, c_31, d_31, reduceCtorEq, if_true, if_false, reduceIte, and_true, true_and, and_false, false_and, and_self, or_true, true_or, or_false, false_or, or_self, not_true, not_false_iff]; try rfl, q0.trans (congrArg (gput _ g) (by simp (decide := true) only [k_launch, c_4, c_11, c_18, c_24, d_24, c_31, d_31, reduceCtorEq, if_true, if_false, reduceIte, and_true, true_and, and_false, false_and, and_self, or_true, true_or, or_false, false_or, or_self, not_true, not_false_iff]; try rfl))⟩
          · skip
            have d_31 := Int32.not_lt.mp c_31
            refine R_iload5 (pc := 34) dX1_launch_34 ?_
            refine R_iconst (pc := 36) (v := 1) dX1_launch_36 (by decide) ?_
            refine R_icmp_lt (pc := 37) 59 dX1_launch_37 (by decide) (fun c_37 => ?_) (fun c_37 => ?_)
            · skip
              have d_37 := Int32.not_le.mpr c_37
              refine R_iconst (pc := 59) (v := (-1)) dX1_launch_59 (by decide) ?_
              refine R_iret (pc := 60) rfl rfl dX1_launch_60 ?_
              exact ⟨by simp (decide := true) only [k_launch, c_4, c_11, c_18, c_24, d_24, c_31, d_31, c_37, d_37, reduceCtorEq, if_true, if_false, reduceIte, and_true, true_and, and_false, false_and, and_self, or_true, true_or, or_false, false_or, or_self, not_true, not_false_iff]; try rfl, q0.trans (congrArg (gput _ g) (by simp (decide := true) only [k_launch, c_4, c_11, c_18, c_24, d_24, c_31, d_31, c_37, d_37, reduceCtorEq, if_true, if_false, reduceIte, and_true, true_and, and_false, false_and, and_self, or_true, true_or, or_false, false_or, or_self, not_true, not_false_iff]; try rfl))⟩
            · skip
              have d_37 := Int32.not_lt.mp c_37
              refine R_iload5 (pc := 40) dX1_launch_40 ?_
              refine R_bipush (pc := 42) (v := 40) dX1_launch_42 (by decide) ?_
              refine R_icmp_gt (pc := 44) 59 dX1_launch_44 (by decide) (fun c_44 => ?_) (fun c_44 => ?_)
              · skip
                have d_44 := Int32.not_le.mpr c_44
                refine R_iconst (pc := 59) (v := (-1)) dX1_launch_59 (by decide) ?_
                refine R_iret (pc := 60) rfl rfl dX1_launch_60 ?_
                exact ⟨by simp (decide := true) only [k_launch, c_4, c_11, c_18, c_24, d_24, c_31, d_31, c_37, d_37, c_44, d_44, reduceCtorEq, if_true, if_false, reduceIte, and_true, true_and, and_false, false_and, and_self, or_true, true_or, or_false, false_or, or_self, not_true, not_false_iff]; try rfl, q0.trans (congrArg (gput _ g) (by simp (decide := true) only [k_launch, c_4, c_11, c_18, c_24, d_24, c_31, d_31, c_37, d_37, c_44, d_44, reduceCtorEq, if_true, if_false, reduceIte, and_true, true_and, and_false, false_and, and_self, or_true, true_or, or_false, false_or, or_self, not_true, not_false_iff]; try rfl))⟩
              · skip
                have d_44 := Int32.not_lt.mp c_44
                refine R_iload6 (pc := 47) dX1_launch_47 ?_
                refine R_if_lt (pc := 49) 59 dX1_launch_49 (by decide) (fun c_49 => ?_) (fun c_49 => ?_)
                · skip
                  have d_49 := Int32.not_le.mpr c_49
                  refine R_iconst (pc := 59) (v := (-1)) dX1_launch_59 (by decide) ?_
                  refine R_iret (pc := 60) rfl rfl dX1_launch_60 ?_
                  exact ⟨by simp (decide := true) only [k_launch, c_4, c_11, c_18, c_24, d_24, c_31, d_31, c_37, d_37, c_44, d_44, c_49, d_49, reduceCtorEq, if_true, if_false, reduceIte, and_true, true_and, and_false, false_and, and_self, or_true, true_or, or_false, false_or, or_self, not_true, not_false_iff]; try rfl, q0.trans (congrArg (gput _ g) (by simp (decide := true) only [k_launch, c_4, c_11, c_18, c_24, d_24, c_31, d_31, c_37, d_37, c_44, d_44, c_49, d_49, reduceCtorEq, if_true, if_false, reduceIte, and_true, true_and, and_false, false_and, and_self, or_true, true_or, or_false, false_or, or_self, not_true, not_false_iff]; try rfl))⟩
                · skip
                  have d_49 := Int32.not_lt.mp c_49
                  refine R_iload6 (pc := 52) dX1_launch_52 ?_
                  refine R_bipush (pc := 54) (v := 9) dX1_launch_54 (by decide) ?_
                  refine R_icmp_le (pc := 56) 61 dX1_launch_56 (by decide) (fun c_56 => ?_) (fun c_56 => ?_)
                  · skip
                    have d_56 := Int32.not_lt.mpr c_56
                    refine R_aload_n0 (pc := 61) dX1_launch_61 ?_
                    refine R_iload_n2 (pc := 62) dX1_launch_62 ?_
                    refine R_callV1 (pc := 63) (T := TX1) cal_X1_isFree kw436 kw438 kw9 dX1_launch_63 (c_X1_isFree (by assumption)) (by decide) (Nat.le_of_ble_eq_true rfl) (ci := 1) rfl (by assumption) ?_
                    rintro _ _ ⟨rfl, rfl⟩
                    refine R_ifb_ne (pc := 66) 72 dX1_launch_66 (by decide) (fun c_66 => ?_) (fun c_66 => ?_)
                    · skip
                      refine R_aload_n0 (pc := 72) dX1_launch_72 ?_
                      refine G_X1_50 (pc := 73) dX1_launch_73 (by assumption) ?_
                      refine R_aload_n0 (pc := 76) dX1_launch_76 ?_
                      refine G_X1_33 (pc := 77) dX1_launch_77 (by assumption) ?_
                      refine R_alen (pc := 80) (v := 8) dX1_launch_80 (by assumption) (by decide) rfl ?_
                      refine R_icmp_lt (pc := 81) 87 dX1_launch_81 (by decide) (fun c_81 => ?_) (fun c_81 => ?_)
                      · skip
                        have d_81 := Int32.not_le.mpr c_81
                        have hn8 : n < 8 := by rw [hcn] at c_81; exact (nI_ltI (by omega) (by decide)).mp c_81
                        refine R_aload_n0 (pc := 87) dX1_launch_87 ?_
                        refine G_X1_33 (pc := 88) dX1_launch_88 (by assumption) ?_
                        refine R_aload_n0 (pc := 91) dX1_launch_91 ?_
                        refine G_X1_50 (pc := 92) dX1_launch_92 (by assumption) ?_
                        rw [hcn]
                        refine R_ship (pc := 95) dX1_launch_95 (by assumption) (by assumption) ?_
                        have gnew := hG.sh hn8
                        refine R_astore7 (pc := 96) dX1_launch_96 rfl (by decide) ?_
                        refine R_aload7 (pc := 98) dX1_launch_98 ?_
                        refine R_iload_n1 (pc := 100) dX1_launch_100 ?_
                        refine P_X1_105 (pc := 101) dX1_launch_101 (by assumption) (fun h1 e1 f1 => ?_)
                        have q1 := gstep_s q0 e1 (by assumption) rfl
                        have hG1 := gAt q1
                        have go1 := hG1.o0
                        have gca1 := hG1.c0
                        have gcb1 := hG1.c1
                        have gi1 := hG1.is
                        have gs1 := hG1.sa
                        have gsh1_0 := hG1.sh hn8
                        refine R_aload7 (pc := 104) dX1_launch_104 ?_
                        refine R_iload_n2 (pc := 106) dX1_launch_106 ?_
                        refine P_X1_73 (pc := 107) dX1_launch_107 (by assumption) (fun h2 e2 f2 => ?_)
                        have q2 := gstep_s q1 e2 (by assumption) rfl
                        have hG2 := gAt q2
                        have go2 := hG2.o0
                        have gca2 := hG2.c0
                        have gcb2 := hG2.c1
                        have gi2 := hG2.is
                        have gs2 := hG2.sa
                        have gsh2_0 := hG2.sh hn8
                        refine R_aload7 (pc := 110) dX1_launch_110 ?_
                        refine R_iload_n3 (pc := 112) dX1_launch_112 ?_
                        refine P_X1_108 (pc := 113) dX1_launch_113 (by assumption) (fun h3 e3 f3 => ?_)
                        have q3 := gstep_s q2 e3 (by assumption) rfl
                        have hG3 := gAt q3
                        have go3 := hG3.o0
                        have gca3 := hG3.c0
                        have gcb3 := hG3.c1
                        have gi3 := hG3.is
                        have gs3 := hG3.sa
                        have gsh3_0 := hG3.sh hn8
                        refine R_aload7 (pc := 116) dX1_launch_116 ?_
                        refine R_bipush (pc := 118) (v := 20) dX1_launch_118 (by decide) ?_
                        refine P_X1_111 (pc := 120) dX1_launch_120 (by assumption) (fun h4 e4 f4 => ?_)
                        have q4 := gstep_s q3 e4 (by assumption) rfl
                        have hG4 := gAt q4
                        have go4 := hG4.o0
                        have gca4 := hG4.c0
                        have gcb4 := hG4.c1
                        have gi4 := hG4.is
                        have gs4 := hG4.sa
                        have gsh4_0 := hG4.sh hn8
                        refine R_aload7 (pc := 123) dX1_launch_123 ?_
                        refine R_iload4 (pc := 125) dX1_launch_125 ?_
                        refine P_X1_114 (pc := 127) dX1_launch_127 (by assumption) (fun h5 e5 f5 => ?_)
                        have q5 := gstep_s q4 e5 (by assumption) rfl
                        have hG5 := gAt q5
                        have go5 := hG5.o0
                        have gca5 := hG5.c0
                        have gcb5 := hG5.c1
                        have gi5 := hG5.is
                        have gs5 := hG5.sa
                        have gsh5_0 := hG5.sh hn8
                        refine R_aload7 (pc := 130) dX1_launch_130 ?_
                        refine R_iload5 (pc := 132) dX1_launch_132 ?_
                        refine P_X1_117 (pc := 134) dX1_launch_134 (by assumption) (fun h6 e6 f6 => ?_)
                        have q6 := gstep_s q5 e6 (by assumption) rfl
                        have hG6 := gAt q6
                        have go6 := hG6.o0
                        have gca6 := hG6.c0
                        have gcb6 := hG6.c1
                        have gi6 := hG6.is
                        have gs6 := hG6.sa
                        have gsh6_0 := hG6.sh hn8
                        refine R_aload7 (pc := 137) dX1_launch_137 ?_
                        refine R_iload6 (pc := 139) dX1_launch_139 ?_
                        refine P_X1_120 (pc := 141) dX1_launch_141 (by assumption) (fun h7 e7 f7 => ?_)
                        have q7 := gstep_s q6 e7 (by assumption) rfl
                        have hG7 := gAt q7
                        have go7 := hG7.o0
                        have gca7 := hG7.c0
                        have gcb7 := hG7.c1
                        have gi7 := hG7.is
                        have gs7 := hG7.sa
                        have gsh7_0 := hG7.sh hn8
                        refine R_aload_n0 (pc := 144) dX1_launch_144 ?_
                        refine R_dup (pc := 145) dX1_launch_145 rfl ?_
                        refine G_X1_50 (pc := 146) dX1_launch_146 (by assumption) ?_
                        refine R_iconst (pc := 149) (v := 1) dX1_launch_149 (by decide) ?_
                        refine R_iadd (pc := 150) dX1_launch_150 ?_
                        refine P_X1_50 (pc := 151) dX1_launch_151 (by assumption) (fun h8 e8 f8 => ?_)
                        have q8 := gstep_g q7 e8 (by decide)
                        have hG8 := gAt q8
                        have go8 := hG8.o0
                        have gca8 := hG8.c0
                        have gcb8 := hG8.c1
                        have gi8 := hG8.is
                        have gs8 := hG8.sa
                        have gsh8_0 := hG8.sh hn8
                        refine R_aload7 (pc := 154) dX1_launch_154 ?_
                        refine G_X1_94 (pc := 156) dX1_launch_156 (by assumption) ?_
                        refine R_iret (pc := 159) rfl rfl dX1_launch_159 ?_
                        exact ⟨by simp (decide := true) only [k_launch, c_4, c_11, c_18, c_24, d_24, c_31, d_31, c_37, d_37, c_44, d_44, c_49, d_49, c_56, d_56, c_66, c_81, d_81, reduceCtorEq, if_true, if_false, reduceIte, and_true, true_and, and_false, false_and, and_self, or_true, true_or, or_false, false_or, or_self, not_true, not_false_iff]; try rfl, q8.trans (congrArg (gput _ g) (by simp (decide := true) only [k_launch, c_4, c_11, c_18, c_24, d_24, c_31, d_31, c_37, d_37, c_44, d_44, c_49, d_49, c_56, d_56, c_66, c_81, d_81, reduceCtorEq, if_true, if_false, reduceIte, and_true, true_and, and_false, false_and, and_self, or_true, true_or, or_false, false_or, or_self, not_true, not_false_iff]; try rfl))⟩
                      · skip
                        have d_81 := Int32.not_lt.mp c_81
                        refine R_bipush (pc := 84) (v := (-3)) dX1_launch_84 (by decide) ?_
                        refine R_iret (pc := 86) rfl rfl dX1_launch_86 ?_
                        exact ⟨by simp (decide := true) only [k_launch, c_4, c_11, c_18, c_24, d_24, c_31, d_31, c_37, d_37, c_44, d_44, c_49, d_49, c_56, d_56, c_66, c_81, d_81, reduceCtorEq, if_true, if_false, reduceIte, and_true, true_and, and_false, false_and, and_self, or_true, true_or, or_false, false_or, or_self, not_true, not_false_iff]; try rfl, q0.trans (congrArg (gput _ g) (by simp (decide := true) only [k_launch, c_4, c_11, c_18, c_24, d_24, c_31, d_31, c_37, d_37, c_44, d_44, c_49, d_49, c_56, d_56, c_66, c_81, d_81, reduceCtorEq, if_true, if_false, reduceIte, and_true, true_and, and_false, false_and, and_self, or_true, true_or, or_false, false_or, or_self, not_true, not_false_iff]; try rfl))⟩
                    · skip
                      refine R_bipush (pc := 69) (v := (-2)) dX1_launch_69 (by decide) ?_
                      refine R_iret (pc := 71) rfl rfl dX1_launch_71 ?_
                      exact ⟨by simp (decide := true) only [k_launch, c_4, c_11, c_18, c_24, d_24, c_31, d_31, c_37, d_37, c_44, d_44, c_49, d_49, c_56, d_56, c_66, reduceCtorEq, if_true, if_false, reduceIte, and_true, true_and, and_false, false_and, and_self, or_true, true_or, or_false, false_or, or_self, not_true, not_false_iff]; try rfl, q0.trans (congrArg (gput _ g) (by simp (decide := true) only [k_launch, c_4, c_11, c_18, c_24, d_24, c_31, d_31, c_37, d_37, c_44, d_44, c_49, d_49, c_56, d_56, c_66, reduceCtorEq, if_true, if_false, reduceIte, and_true, true_and, and_false, false_and, and_self, or_true, true_or, or_false, false_or, or_self, not_true, not_false_iff]; try rfl))⟩
                  · skip
                    have d_56 := Int32.not_le.mp c_56
                    refine R_iconst (pc := 59) (v := (-1)) dX1_launch_59 (by decide) ?_
                    refine R_iret (pc := 60) rfl rfl dX1_launch_60 ?_
                    exact ⟨by simp (decide := true) only [k_launch, c_4, c_11, c_18, c_24, d_24, c_31, d_31, c_37, d_37, c_44, d_44, c_49, d_49, c_56, d_56, reduceCtorEq, if_true, if_false, reduceIte, and_true, true_and, and_false, false_and, and_self, or_true, true_or, or_false, false_or, or_self, not_true, not_false_iff]; try rfl, q0.trans (congrArg (gput _ g) (by simp (decide := true) only [k_launch, c_4, c_11, c_18, c_24, d_24, c_31, d_31, c_37, d_37, c_44, d_44, c_49, d_49, c_56, d_56, reduceCtorEq, if_true, if_false, reduceIte, and_true, true_and, and_false, false_and, and_self, or_true, true_or, or_false, false_or, or_self, not_true, not_false_iff]; try rfl))⟩


set_option maxHeartbeats 4000000 in
set_option maxRecDepth 100000 in
theorem c_X1_beginMoves (hG : GmAt h g G)  : Spec l D cA N0 m_X1_beginMoves 3 0 0 [.ref g] h (fun r h' => r = none ∧ h' = gput h g (k_begin G)) := by
  refine Spec.of (L := [some (.ref g), none]) (by decide) rfl (Nat.le_of_ble_eq_true rfl) ?_
  have go := hG.o0
  have gc0 := hG.c0
  have gc1 := hG.c1
  have gi := hG.is
  have gs := hG.sa
  have q0 := (gput_self hG).symm
  refine R_aload_n0 (pc := 0) dX1_beginMoves_0 ?_
  refine G_X1_18 (pc := 1) dX1_beginMoves_1 (by assumption) ?_
  refine G_X1_133 (pc := 4) dX1_beginMoves_4 (by assumption) ?_
  refine R_aload_n0 (pc := 7) dX1_beginMoves_7 ?_
  refine G_X1_22 (pc := 8) dX1_beginMoves_8 (by assumption) ?_
  refine G_X1_133 (pc := 11) dX1_beginMoves_11 (by assumption) ?_
  refine R_iadd (pc := 14) dX1_beginMoves_14 ?_
  refine R_istore_n1 (pc := 15) dX1_beginMoves_15 rfl (by decide) ?_
  refine R_aload_n0 (pc := 16) dX1_beginMoves_16 ?_
  refine R_aload_n0 (pc := 17) dX1_beginMoves_17 ?_
  refine R_iload_n1 (pc := 18) dX1_beginMoves_18 ?_
  refine R_callV1 (pc := 19) (T := TX1) cal_X1_directionBy kw711 kw687 kw688 dX1_beginMoves_19 (c_X1_directionBy (by assumption)) (by decide) (Nat.le_of_ble_eq_true rfl) (ci := 1) rfl (by assumption) ?_
  rintro _ _ ⟨rfl, rfl⟩
  refine P_X1_47 (pc := 22) dX1_beginMoves_22 (by assumption) (fun h1 e1 f1 => ?_)
  have q1 := gstep_g q0 e1 (by decide)
  have hG1 := gAt q1
  have go1 := hG1.o0
  have gca1 := hG1.c0
  have gcb1 := hG1.c1
  have gi1 := hG1.is
  have gs1 := hG1.sa
  refine R_aload_n0 (pc := 25) dX1_beginMoves_25 ?_
  refine R_iload_n1 (pc := 26) dX1_beginMoves_26 ?_
  refine R_callS1 (pc := 27) cal_X1_strengthBy kw712 kw691 dX1_beginMoves_27 c_X1_strengthBy (by decide) (Nat.le_of_ble_eq_true rfl) ?_
  rintro _ _ ⟨rfl, rfl⟩
  refine P_X1_9 (pc := 30) dX1_beginMoves_30 (by assumption) (fun h2 e2 f2 => ?_)
  have q2 := gstep_g q1 e2 (by decide)
  have hG2 := gAt q2
  have go2 := hG2.o0
  have gca2 := hG2.c0
  have gcb2 := hG2.c1
  have gi2 := hG2.is
  have gs2 := hG2.sa
  refine R_aload_n0 (pc := 33) dX1_beginMoves_33 ?_
  refine G_X1_18 (pc := 34) dX1_beginMoves_34 (by assumption) ?_
  refine R_callV0 (pc := 37) (T := TX0) cal_X0_layDownCard kw713 kw714 kw715 dX1_beginMoves_37 (c_X0_layDownCard (by assumption)) (by decide) (Nat.le_of_ble_eq_true rfl) (ci := 0) rfl (by assumption) ?_
  rintro _ h3 ⟨rfl, e3⟩
  have q3 := gstep_c0 q2 e3
  have hG3 := gAt q3
  have go3 := hG3.o0
  have gca3 := hG3.c0
  have gcb3 := hG3.c1
  have gi3 := hG3.is
  have gs3 := hG3.sa
  refine R_aload_n0 (pc := 40) dX1_beginMoves_40 ?_
  refine G_X1_22 (pc := 41) dX1_beginMoves_41 (by assumption) ?_
  refine R_callV0 (pc := 44) (T := TX0) cal_X0_layDownCard kw713 kw714 kw715 dX1_beginMoves_44 (c_X0_layDownCard (by assumption)) (by decide) (Nat.le_of_ble_eq_true rfl) (ci := 0) rfl (by assumption) ?_
  rintro _ h4 ⟨rfl, e4⟩
  have q4 := gstep_c1 q3 e4
  have hG4 := gAt q4
  have go4 := hG4.o0
  have gca4 := hG4.c0
  have gcb4 := hG4.c1
  have gi4 := hG4.is
  have gs4 := hG4.sa
  refine R_aload_n0 (pc := 47) dX1_beginMoves_47 ?_
  refine R_iconst (pc := 48) (v := 1) dX1_beginMoves_48 (by decide) ?_
  refine P_X1_43 (pc := 49) dX1_beginMoves_49 (by decide) (by assumption) (fun h5 e5 f5 => ?_)
  have q5 := gstep_g q4 e5 (by decide)
  have hG5 := gAt q5
  have go5 := hG5.o0
  have gca5 := hG5.c0
  have gcb5 := hG5.c1
  have gi5 := hG5.is
  have gs5 := hG5.sa
  refine R_vret (pc := 52) rfl dX1_beginMoves_52 ?_
  exact ⟨rfl, q5⟩

set_option maxHeartbeats 4000000 in
set_option maxRecDepth 100000 in
theorem c_X1_tellCard (hG : GmAt h g G) {c x : Int32} : Spec l D cA N0 m_X1_tellCard 4 0 0 [.ref g, .int c, .int x] h (fun r h' => r = some (.int (k_tell G c x).1) ∧ h' = gput h g (k_tell G c x).2) := by
  refine Spec.of (L := [some (.ref g), some (.int c), some (.int x), none]) (by decide) rfl (Nat.le_of_ble_eq_true rfl) ?_
  have go := hG.o0
  have gc0 := hG.c0
  have gc1 := hG.c1
  have gi := hG.is
  have gs := hG.sa
  have q0 := (gput_self hG).symm
  refine R_iload_n1 (pc := 0) dX1_tellCard_0 ?_
  refine R_callS1 (pc := 1) cal_X0_exists kw432 kw382 dX1_tellCard_1 c_X0_exists (by decide) (Nat.le_of_ble_eq_true rfl) ?_
  rintro _ _ ⟨rfl, rfl⟩
  refine R_ifb_eq (pc := 4) 14 dX1_tellCard_4 (by decide) (fun c_4 => ?_) (fun c_4 => ?_)
  · skip
    refine R_iconst (pc := 14) (v := (-1)) dX1_tellCard_14 (by decide) ?_
    refine R_iret (pc := 15) rfl rfl dX1_tellCard_15 ?_
    exact ⟨by simp (decide := true) only [k_tell, k_told1, sK, c_4, reduceCtorEq, if_true, if_false, reduceIte, and_true, true_and, and_false, false_and, and_self, or_true, true_or, or_false, false_or, or_self, not_true, not_false_iff]; try rfl, q0.trans (congrArg (gput _ g) (by simp (decide := true) only [k_tell, k_told1, sK, c_4, reduceCtorEq, if_true, if_false, reduceIte, and_true, true_and, and_false, false_and, and_self, or_true, true_or, or_false, false_or, or_self, not_true, not_false_iff]; try rfl))⟩
  · skip
    refine R_iload_n2 (pc := 7) dX1_tellCard_7 ?_
    refine R_callS1 (pc := 8) cal_X0_isCard kw701 kw684 dX1_tellCard_8 c_X0_isCard (by decide) (Nat.le_of_ble_eq_true rfl) ?_
    rintro _ _ ⟨rfl, rfl⟩
    refine R_ifb_ne (pc := 11) 16 dX1_tellCard_11 (by decide) (fun c_11 => ?_) (fun c_11 => ?_)
    · skip
      refine R_aload_n0 (pc := 16) dX1_tellCard_16 ?_
      refine R_iload_n1 (pc := 17) dX1_tellCard_17 ?_
      refine R_callV1 (pc := 18) (T := TX1) cal_X1_captainOf kw482 kw484 kw11 dX1_tellCard_18 (c_X1_captainOf (by assumption)) (by decide) (Nat.le_of_ble_eq_true rfl) (ci := 1) rfl (by assumption) ?_
      rintro _ _ ⟨rfl, rfl⟩
      have gcp := hG.cp c
      refine R_astore_n3 (pc := 21) dX1_tellCard_21 rfl (by decide) ?_
      refine R_aload_n0 (pc := 22) dX1_tellCard_22 ?_
      refine G_X1_43 (pc := 23) dX1_tellCard_23 (by assumption) ?_
      refine R_if_ne (pc := 26) 46 dX1_tellCard_26 (by decide) (fun c_26 => ?_) (fun c_26 => ?_)
      · skip
        refine R_bipush (pc := 46) (v := (-2)) dX1_tellCard_46 (by decide) ?_
        refine R_iret (pc := 48) rfl rfl dX1_tellCard_48 ?_
        exact ⟨by simp (decide := true) only [k_tell, k_told1, sK, c_4, c_11, c_26, reduceCtorEq, if_true, if_false, reduceIte, and_true, true_and, and_false, false_and, and_self, or_true, true_or, or_false, false_or, or_self, not_true, not_false_iff]; try rfl, q0.trans (congrArg (gput _ g) (by simp (decide := true) only [k_tell, k_told1, sK, c_4, c_11, c_26, reduceCtorEq, if_true, if_false, reduceIte, and_true, true_and, and_false, false_and, and_self, or_true, true_or, or_false, false_or, or_self, not_true, not_false_iff]; try rfl))⟩
      · skip
        refine R_aload_n3 (pc := 29) dX1_tellCard_29 ?_
        refine G_X1_133 (pc := 30) dX1_tellCard_30 (by assumption) ?_
        refine R_bipush (pc := 33) (v := (-9)) dX1_tellCard_33 (by decide) ?_
        refine R_icmp_ne (pc := 35) 46 dX1_tellCard_35 (by decide) (fun c_35 => ?_) (fun c_35 => ?_)
        · skip
          refine R_bipush (pc := 46) (v := (-2)) dX1_tellCard_46 (by decide) ?_
          refine R_iret (pc := 48) rfl rfl dX1_tellCard_48 ?_
          exact ⟨by simp (decide := true) only [k_tell, k_told1, sK, c_4, c_11, c_26, c_35, reduceCtorEq, if_true, if_false, reduceIte, and_true, true_and, and_false, false_and, and_self, or_true, true_or, or_false, false_or, or_self, not_true, not_false_iff]; try rfl, q0.trans (congrArg (gput _ g) (by simp (decide := true) only [k_tell, k_told1, sK, c_4, c_11, c_26, c_35, reduceCtorEq, if_true, if_false, reduceIte, and_true, true_and, and_false, false_and, and_self, or_true, true_or, or_false, false_or, or_self, not_true, not_false_iff]; try rfl))⟩
        · skip
          refine R_aload_n3 (pc := 38) dX1_tellCard_38 ?_
          refine R_iload_n2 (pc := 39) dX1_tellCard_39 ?_
          refine R_callV1 (pc := 40) (T := TX0) cal_X0_holds kw702 kw703 kw704 dX1_tellCard_40 (c_X0_holds (by assumption)) (by decide) (Nat.le_of_ble_eq_true rfl) (ci := 0) rfl (by assumption) ?_
          rintro _ _ ⟨rfl, rfl⟩
          refine R_ifb_ne (pc := 43) 49 dX1_tellCard_43 (by decide) (fun c_43 => ?_) (fun c_43 => ?_)
          · skip
            refine R_aload_n3 (pc := 49) dX1_tellCard_49 ?_
            refine R_iload_n2 (pc := 50) dX1_tellCard_50 ?_
            refine P_X1_133 (pc := 51) dX1_tellCard_51 (by assumption) (fun h1 e1 f1 => ?_)
            have q1 := gstep_c q0 e1
            have hG1 := gAt q1
            have go1 := hG1.o0
            have gca1 := hG1.c0
            have gcb1 := hG1.c1
            have gi1 := hG1.is
            have gs1 := hG1.sa
            have gcp1_0 := hG1.cp c
            refine R_aload_n0 (pc := 54) dX1_tellCard_54 ?_
            refine G_X1_18 (pc := 55) dX1_tellCard_55 (by assumption) ?_
            refine G_X1_133 (pc := 58) dX1_tellCard_58 (by assumption) ?_
            refine R_bipush (pc := 61) (v := (-9)) dX1_tellCard_61 (by decide) ?_
            refine R_icmp_eq (pc := 63) 82 dX1_tellCard_63 (by decide) (fun c_63 => ?_) (fun c_63 => ?_)
            · skip
              refine R_aload_n0 (pc := 82) dX1_tellCard_82 ?_
              refine R_callV0 (pc := 83) (T := TX1) cal_X1_toldSet kw361 kw363 kw4 dX1_tellCard_83 (c_X1_toldSet (by assumption)) (by decide) (Nat.le_of_ble_eq_true rfl) (ci := 1) rfl (by assumption) ?_
              rintro _ _ ⟨rfl, rfl⟩
              refine R_iret (pc := 86) rfl rfl dX1_tellCard_86 ?_
              exact ⟨by simp (decide := true) only [k_tell, k_told1, sK, c_4, c_11, c_26, c_35, c_43, c_63, reduceCtorEq, if_true, if_false, reduceIte, and_true, true_and, and_false, false_and, and_self, or_true, true_or, or_false, false_or, or_self, not_true, not_false_iff]; try rfl, q1.trans (congrArg (gput _ g) (by simp (decide := true) only [k_tell, k_told1, sK, c_4, c_11, c_26, c_35, c_43, c_63, reduceCtorEq, if_true, if_false, reduceIte, and_true, true_and, and_false, false_and, and_self, or_true, true_or, or_false, false_or, or_self, not_true, not_false_iff]; try rfl))⟩
            · skip
              refine R_aload_n0 (pc := 66) dX1_tellCard_66 ?_
              refine G_X1_22 (pc := 67) dX1_tellCard_67 (by assumption) ?_
              refine G_X1_133 (pc := 70) dX1_tellCard_70 (by assumption) ?_
              refine R_bipush (pc := 73) (v := (-9)) dX1_tellCard_73 (by decide) ?_
              refine R_icmp_eq (pc := 75) 82 dX1_tellCard_75 (by decide) (fun c_75 => ?_) (fun c_75 => ?_)
              · skip
                refine R_aload_n0 (pc := 82) dX1_tellCard_82 ?_
                refine R_callV0 (pc := 83) (T := TX1) cal_X1_toldSet kw361 kw363 kw4 dX1_tellCard_83 (c_X1_toldSet (by assumption)) (by decide) (Nat.le_of_ble_eq_true rfl) (ci := 1) rfl (by assumption) ?_
                rintro _ _ ⟨rfl, rfl⟩
                refine R_iret (pc := 86) rfl rfl dX1_tellCard_86 ?_
                exact ⟨by simp (decide := true) only [k_tell, k_told1, sK, c_4, c_11, c_26, c_35, c_43, c_63, c_75, reduceCtorEq, if_true, if_false, reduceIte, and_true, true_and, and_false, false_and, and_self, or_true, true_or, or_false, false_or, or_self, not_true, not_false_iff]; try rfl, q1.trans (congrArg (gput _ g) (by simp (decide := true) only [k_tell, k_told1, sK, c_4, c_11, c_26, c_35, c_43, c_63, c_75, reduceCtorEq, if_true, if_false, reduceIte, and_true, true_and, and_false, false_and, and_self, or_true, true_or, or_false, false_or, or_self, not_true, not_false_iff]; try rfl))⟩
              · skip
                refine R_aload_n0 (pc := 78) dX1_tellCard_78 ?_
                refine R_callV0 (pc := 79) (T := TX1) cal_X1_beginMoves kw707 kw709 kw18 dX1_tellCard_79 (c_X1_beginMoves (by assumption)) (by decide) (Nat.le_of_ble_eq_true rfl) (ci := 1) rfl (by assumption) ?_
                rintro _ h2 ⟨rfl, e2⟩
                have q2 := gstep_G q1 e2
                have hG2 := gAt q2
                have go2 := hG2.o0
                have gca2 := hG2.c0
                have gcb2 := hG2.c1
                have gi2 := hG2.is
                have gs2 := hG2.sa
                have gcp2_0 := hG2.cp c
                refine R_aload_n0 (pc := 82) dX1_tellCard_82 ?_
                refine R_callV0 (pc := 83) (T := TX1) cal_X1_toldSet kw361 kw363 kw4 dX1_tellCard_83 (c_X1_toldSet (by assumption)) (by decide) (Nat.le_of_ble_eq_true rfl) (ci := 1) rfl (by assumption) ?_
                rintro _ _ ⟨rfl, rfl⟩
                refine R_iret (pc := 86) rfl rfl dX1_tellCard_86 ?_
                exact ⟨by simp (decide := true) only [k_tell, k_told1, sK, c_4, c_11, c_26, c_35, c_43, c_63, c_75, reduceCtorEq, if_true, if_false, reduceIte, and_true, true_and, and_false, false_and, and_self, or_true, true_or, or_false, false_or, or_self, not_true, not_false_iff]; try rfl, q2.trans (congrArg (gput _ g) (by simp (decide := true) only [k_tell, k_told1, sK, c_4, c_11, c_26, c_35, c_43, c_63, c_75, reduceCtorEq, if_true, if_false, reduceIte, and_true, true_and, and_false, false_and, and_self, or_true, true_or, or_false, false_or, or_self, not_true, not_false_iff]; try rfl))⟩
          · skip
            refine R_bipush (pc := 46) (v := (-2)) dX1_tellCard_46 (by decide) ?_
            refine R_iret (pc := 48) rfl rfl dX1_tellCard_48 ?_
            exact ⟨by simp (decide := true) only [k_tell, k_told1, sK, c_4, c_11, c_26, c_35, c_43, reduceCtorEq, if_true, if_false, reduceIte, and_true, true_and, and_false, false_and, and_self, or_true, true_or, or_false, false_or, or_self, not_true, not_false_iff]; try rfl, q0.trans (congrArg (gput _ g) (by simp (decide := true) only [k_tell, k_told1, sK, c_4, c_11, c_26, c_35, c_43, reduceCtorEq, if_true, if_false, reduceIte, and_true, true_and, and_false, false_and, and_self, or_true, true_or, or_false, false_or, or_self, not_true, not_false_iff]; try rfl))⟩
    · skip
      refine R_iconst (pc := 14) (v := (-1)) dX1_tellCard_14 (by decide) ?_
      refine R_iret (pc := 15) rfl rfl dX1_tellCard_15 ?_
      exact ⟨by simp (decide := true) only [k_tell, k_told1, sK, c_4, c_11, reduceCtorEq, if_true, if_false, reduceIte, and_true, true_and, and_false, false_and, and_self, or_true, true_or, or_false, false_or, or_self, not_true, not_false_iff]; try rfl, q0.trans (congrArg (gput _ g) (by simp (decide := true) only [k_tell, k_told1, sK, c_4, c_11, reduceCtorEq, if_true, if_false, reduceIte, and_true, true_and, and_false, false_and, and_self, or_true, true_or, or_false, false_or, or_self, not_true, not_false_iff]; try rfl))⟩

set_option maxHeartbeats 4000000 in
set_option maxRecDepth 100000 in
theorem c_X1_release (hG : GmAt h g G) {i : Nat} (hi : i < 8) : Spec l D cA N0 m_X1_release 1 0 0 [.ref g, .ref (sad g i)] h (fun r h' => r = none ∧ h' = gput h g (k_rel G i)) := by
  refine Spec.of (L := [some (.ref g), some (.ref (sad g i)), none]) (by decide) rfl (Nat.le_of_ble_eq_true rfl) ?_
  have go := hG.o0
  have gc0 := hG.c0
  have gc1 := hG.c1
  have gi := hG.is
  have gs := hG.sa
  have q0 := (gput_self hG).symm
  have gsi := hG.sh hi
  refine R_aload_n0 (pc := 0) dX1_release_0 ?_
  refine R_aload_n1 (pc := 1) dX1_release_1 ?_
  refine G_X1_223 (pc := 2) dX1_release_2 (by assumption) ?_
  refine R_callV1 (pc := 5) (T := TX1) cal_X1_known kw281 kw282 kw283 dX1_release_5 (c_X1_known (by assumption)) (by decide) (Nat.le_of_ble_eq_true rfl) (ci := 1) rfl (by assumption) ?_
  rintro _ _ ⟨⟨z5, hz5, rfl⟩, rfl⟩
  rcases k_known_cases _ _ with ⟨kv5, kz5⟩ | ⟨k5, kl5, kx5, kv5, kz5⟩ <;> (rw [kz5] at hz5; subst hz5)
  · skip
    refine R_astoreN_n2 (pc := 8) dX1_release_8 rfl (by decide) ?_
    refine R_aloadN_n2 (pc := 9) dX1_release_9 ?_
    refine R_ifnullN (pc := 10) 19 dX1_release_10 (by decide) ?_
    refine R_aload_n1 (pc := 19) dX1_release_19 ?_
    refine R_bipush (pc := 20) (v := (-9)) dX1_release_20 (by decide) ?_
    refine P_X1_223 (pc := 22) dX1_release_22 (by assumption) (fun h1 e1 f1 => ?_)
    have q1 := gstep_s q0 e1 (by assumption) rfl
    have hG1 := gAt q1
    have go1 := hG1.o0
    have gca1 := hG1.c0
    have gcb1 := hG1.c1
    have gi1 := hG1.is
    have gs1 := hG1.sa
    have gsh1_0 := hG1.sh hi
    refine R_vret (pc := 25) rfl dX1_release_25 ?_
    exact ⟨rfl, q1.trans (congrArg (gput _ g) (by simp only [k_rel, kz5]; try rfl))⟩
  · skip
    have kg5 := hG.sh kl5
    refine R_astore_n2 (pc := 8) dX1_release_8 rfl (by decide) ?_
    refine R_aload_n2 (pc := 9) dX1_release_9 ?_
    refine R_ifnull (pc := 10) dX1_release_10 ?_
    refine R_aload_n2 (pc := 13) dX1_release_13 ?_
    refine R_bipush (pc := 14) (v := (-9)) dX1_release_14 (by decide) ?_
    refine P_X1_223 (pc := 16) dX1_release_16 (by assumption) (fun h2 e2 f2 => ?_)
    have q2 := gstep_s q0 e2 (by assumption) rfl
    have hG2 := gAt q2
    have go2 := hG2.o0
    have gca2 := hG2.c0
    have gcb2 := hG2.c1
    have gi2 := hG2.is
    have gs2 := hG2.sa
    have gsh2_0 := hG2.sh hi
    have gsh2_1 := hG2.sh kl5
    refine R_aload_n1 (pc := 19) dX1_release_19 ?_
    refine R_bipush (pc := 20) (v := (-9)) dX1_release_20 (by decide) ?_
    refine P_X1_223 (pc := 22) dX1_release_22 (by assumption) (fun h3 e3 f3 => ?_)
    have q3 := gstep_s q2 e3 (by assumption) rfl
    have hG3 := gAt q3
    have go3 := hG3.o0
    have gca3 := hG3.c0
    have gcb3 := hG3.c1
    have gi3 := hG3.is
    have gs3 := hG3.sa
    have gsh3_0 := hG3.sh hi
    have gsh3_1 := hG3.sh kl5
    refine R_vret (pc := 25) rfl dX1_release_25 ?_
    exact ⟨rfl, q3.trans (congrArg (gput _ g) (by simp only [k_rel, kz5]; try rfl))⟩

set_option maxHeartbeats 4000000 in
set_option maxRecDepth 100000 in
theorem c_X1_capture (hG : GmAt h g G) {w p : Nat} (hw : w < 8) (hp : p < 8) : Spec l D cA N0 m_X1_capture 0 0 0 [.ref g, .ref (sad g w), .ref (sad g p)] h (fun r h' => r = none ∧ h' = gput h g (k_capt G w p)) := by
  refine Spec.of (L := [some (.ref g), some (.ref (sad g w)), some (.ref (sad g p)), none]) (by decide) rfl (Nat.le_of_ble_eq_true rfl) ?_
  have go := hG.o0
  have gc0 := hG.c0
  have gc1 := hG.c1
  have gi := hG.is
  have gs := hG.sa
  have q0 := (gput_self hG).symm
  have gsw := hG.sh hw
  have gsp := hG.sh hp
  refine R_aload_n1 (pc := 0) dX1_capture_0 ?_
  refine G_X1_117 (pc := 1) dX1_capture_1 (by assumption) ?_
  refine R_iconst (pc := 4) (v := 2) dX1_capture_4 (by decide) ?_
  refine R_idiv (pc := 5) dX1_capture_5 (by decide) ?_
  refine R_istore_n3 (pc := 6) dX1_capture_6 rfl (by decide) ?_
  refine R_aload_n1 (pc := 7) dX1_capture_7 ?_
  refine R_dup (pc := 8) dX1_capture_8 rfl ?_
  refine G_X1_117 (pc := 9) dX1_capture_9 (by assumption) ?_
  refine R_iload_n3 (pc := 12) dX1_capture_12 ?_
  refine R_isub (pc := 13) dX1_capture_13 ?_
  refine P_X1_117 (pc := 14) dX1_capture_14 (by assumption) (fun h1 e1 f1 => ?_)
  have q1 := gstep_s q0 e1 (by assumption) rfl
  have hG1 := gAt q1
  have go1 := hG1.o0
  have gca1 := hG1.c0
  have gcb1 := hG1.c1
  have gi1 := hG1.is
  have gs1 := hG1.sa
  have gsh1_0 := hG1.sh hw
  have gsh1_1 := hG1.sh hp
  refine R_aload_n2 (pc := 17) dX1_capture_17 ?_
  refine R_dup (pc := 18) dX1_capture_18 rfl ?_
  refine G_X1_117 (pc := 19) dX1_capture_19 (by assumption) ?_
  refine R_iload_n3 (pc := 22) dX1_capture_22 ?_
  refine R_iadd (pc := 23) dX1_capture_23 ?_
  refine P_X1_117 (pc := 24) dX1_capture_24 (by assumption) (fun h2 e2 f2 => ?_)
  have q2 := gstep_s q1 e2 (by assumption) rfl
  have hG2 := gAt q2
  have go2 := hG2.o0
  have gca2 := hG2.c0
  have gcb2 := hG2.c1
  have gi2 := hG2.is
  have gs2 := hG2.sa
  have gsh2_0 := hG2.sh hw
  have gsh2_1 := hG2.sh hp
  refine R_aload_n2 (pc := 27) dX1_capture_27 ?_
  refine R_aload_n1 (pc := 28) dX1_capture_28 ?_
  refine G_X1_105 (pc := 29) dX1_capture_29 (by assumption) ?_
  refine P_X1_105 (pc := 32) dX1_capture_32 (by assumption) (fun h3 e3 f3 => ?_)
  have q3 := gstep_s q2 e3 (by assumption) rfl
  have hG3 := gAt q3
  have go3 := hG3.o0
  have gca3 := hG3.c0
  have gcb3 := hG3.c1
  have gi3 := hG3.is
  have gs3 := hG3.sa
  have gsh3_0 := hG3.sh hw
  have gsh3_1 := hG3.sh hp
  refine R_aload_n0 (pc := 35) dX1_capture_35 ?_
  refine R_dup (pc := 36) dX1_capture_36 rfl ?_
  refine G_X1_53 (pc := 37) dX1_capture_37 (by assumption) ?_
  refine R_iconst (pc := 40) (v := 1) dX1_capture_40 (by decide) ?_
  refine R_iadd (pc := 41) dX1_capture_41 ?_
  refine P_X1_53 (pc := 42) dX1_capture_42 (by assumption) (fun h4 e4 f4 => ?_)
  have q4 := gstep_g q3 e4 (by decide)
  have hG4 := gAt q4
  have go4 := hG4.o0
  have gca4 := hG4.c0
  have gcb4 := hG4.c1
  have gi4 := hG4.is
  have gs4 := hG4.sa
  have gsh4_0 := hG4.sh hw
  have gsh4_1 := hG4.sh hp
  refine R_vret (pc := 45) rfl dX1_capture_45 ?_
  exact ⟨rfl, q4⟩

set_option maxHeartbeats 4000000 in
set_option maxRecDepth 100000 in
theorem c_X1_fight (hG : GmAt h g G) {u v : Nat} (hu : u < 8) (hv : v < 8) : Spec l D cA N0 m_X1_fight 2 0 0 [.ref g, .ref (sad g u), .ref (sad g v)] h (fun r h' => r = none ∧ h' = gput h g (k_fight G u v)) := by
  refine Spec.of (L := [some (.ref g), some (.ref (sad g u)), some (.ref (sad g v)), none, none]) (by decide) rfl (Nat.le_of_ble_eq_true rfl) ?_
  have go := hG.o0
  have gc0 := hG.c0
  have gc1 := hG.c1
  have gi := hG.is
  have gs := hG.sa
  have q0 := (gput_self hG).symm
  have gsu := hG.sh hu
  have gsv := hG.sh hv
  refine R_aload_n2 (pc := 0) dX1_fight_0 ?_
  refine G_X1_117 (pc := 1) dX1_fight_1 (by assumption) ?_
  refine R_iconst (pc := 4) (v := 3) dX1_fight_4 (by decide) ?_
  refine R_iadd (pc := 5) dX1_fight_5 ?_
  refine R_iconst (pc := 6) (v := 4) dX1_fight_6 (by decide) ?_
  refine R_idiv (pc := 7) dX1_fight_7 (by decide) ?_
  refine R_istore_n3 (pc := 8) dX1_fight_8 rfl (by decide) ?_
  refine R_aload_n1 (pc := 9) dX1_fight_9 ?_
  refine G_X1_117 (pc := 10) dX1_fight_10 (by assumption) ?_
  refine R_iconst (pc := 13) (v := 3) dX1_fight_13 (by decide) ?_
  refine R_iadd (pc := 14) dX1_fight_14 ?_
  refine R_iconst (pc := 15) (v := 4) dX1_fight_15 (by decide) ?_
  refine R_idiv (pc := 16) dX1_fight_16 (by decide) ?_
  refine R_istore4 (pc := 17) dX1_fight_17 rfl (by decide) ?_
  refine R_aload_n1 (pc := 19) dX1_fight_19 ?_
  refine R_iconst (pc := 20) (v := 0) dX1_fight_20 (by decide) ?_
  refine R_aload_n1 (pc := 21) dX1_fight_21 ?_
  refine G_X1_117 (pc := 22) dX1_fight_22 (by assumption) ?_
  refine R_iload_n3 (pc := 25) dX1_fight_25 ?_
  refine R_isub (pc := 26) dX1_fight_26 ?_
  refine R_mmax (pc := 27) kw289 dX1_fight_27 (by decide) rfl (by decide) (by decide) ?_
  refine P_X1_117 (pc := 30) dX1_fight_30 (by assumption) (fun h1 e1 f1 => ?_)
  have q1 := gstep_s q0 e1 (by assumption) rfl
  have hG1 := gAt q1
  have go1 := hG1.o0
  have gca1 := hG1.c0
  have gcb1 := hG1.c1
  have gi1 := hG1.is
  have gs1 := hG1.sa
  have gsh1_0 := hG1.sh hu
  have gsh1_1 := hG1.sh hv
  refine R_aload_n2 (pc := 33) dX1_fight_33 ?_
  refine R_iconst (pc := 34) (v := 0) dX1_fight_34 (by decide) ?_
  refine R_aload_n2 (pc := 35) dX1_fight_35 ?_
  refine G_X1_117 (pc := 36) dX1_fight_36 (by assumption) ?_
  refine R_iload4 (pc := 39) dX1_fight_39 ?_
  refine R_isub (pc := 41) dX1_fight_41 ?_
  refine R_mmax (pc := 42) kw289 dX1_fight_42 (by decide) rfl (by decide) (by decide) ?_
  refine P_X1_117 (pc := 45) dX1_fight_45 (by assumption) (fun h2 e2 f2 => ?_)
  have q2 := gstep_s q1 e2 (by assumption) rfl
  have hG2 := gAt q2
  have go2 := hG2.o0
  have gca2 := hG2.c0
  have gcb2 := hG2.c1
  have gi2 := hG2.is
  have gs2 := hG2.sa
  have gsh2_0 := hG2.sh hu
  have gsh2_1 := hG2.sh hv
  refine R_aload_n1 (pc := 48) dX1_fight_48 ?_
  refine G_X1_117 (pc := 49) dX1_fight_49 (by assumption) ?_
  refine R_if_le (pc := 52) 63 dX1_fight_52 (by decide) (fun c_52 => ?_) (fun c_52 => ?_)
  · skip
    have d_52 := Int32.not_lt.mpr c_52
    refine R_aload_n1 (pc := 63) dX1_fight_63 ?_
    refine G_X1_117 (pc := 64) dX1_fight_64 (by assumption) ?_
    refine R_if_le (pc := 67) 79 dX1_fight_67 (by decide) (fun c_67 => ?_) (fun c_67 => ?_)
    · skip
      have d_67 := Int32.not_lt.mpr c_67
      refine R_aload_n2 (pc := 79) dX1_fight_79 ?_
      refine G_X1_117 (pc := 80) dX1_fight_80 (by assumption) ?_
      refine R_if_le (pc := 83) 92 dX1_fight_83 (by decide) (fun c_83 => ?_) (fun c_83 => ?_)
      · skip
        have d_83 := Int32.not_lt.mpr c_83
        refine R_aload_n0 (pc := 92) dX1_fight_92 ?_
        refine R_aload_n1 (pc := 93) dX1_fight_93 ?_
        refine R_callV1 (pc := 94) (T := TX1) cal_X1_release kw296 kw298 kw2 dX1_fight_94 (c_X1_release (by assumption) (by assumption)) (by decide) (Nat.le_of_ble_eq_true rfl) (ci := 1) rfl (by assumption) ?_
        rintro _ h3 ⟨rfl, e3⟩
        have q3 := gstep_G q2 e3
        have hG3 := gAt q3
        have go3 := hG3.o0
        have gca3 := hG3.c0
        have gcb3 := hG3.c1
        have gi3 := hG3.is
        have gs3 := hG3.sa
        have gsh3_0 := hG3.sh hu
        have gsh3_1 := hG3.sh hv
        refine R_vret (pc := 97) rfl dX1_fight_97 ?_
        exact ⟨rfl, q3.trans (congrArg (gput _ g) (by rw [k_fight, k_fgt2, if_neg (show ¬ 0 < shF (k_fgt1 G u v) u 6 from d_52), if_neg (show ¬ 0 < shF (k_fgt1 G u v) v 6 from d_83)]; rfl))⟩
      · skip
        have d_83 := Int32.not_le.mp c_83
        refine R_aload_n0 (pc := 86) dX1_fight_86 ?_
        refine R_aload_n2 (pc := 87) dX1_fight_87 ?_
        refine R_aload_n1 (pc := 88) dX1_fight_88 ?_
        refine R_callV2 (pc := 89) (T := TX1) cal_X1_capture kw292 kw294 kw1 dX1_fight_89 (c_X1_capture (by assumption) (by assumption) (by assumption)) (by decide) (Nat.le_of_ble_eq_true rfl) (ci := 1) rfl (by assumption) ?_
        rintro _ h4 ⟨rfl, e4⟩
        have q4 := gstep_G q2 e4
        have hG4 := gAt q4
        have go4 := hG4.o0
        have gca4 := hG4.c0
        have gcb4 := hG4.c1
        have gi4 := hG4.is
        have gs4 := hG4.sa
        have gsh4_0 := hG4.sh hu
        have gsh4_1 := hG4.sh hv
        refine R_aload_n0 (pc := 92) dX1_fight_92 ?_
        refine R_aload_n1 (pc := 93) dX1_fight_93 ?_
        refine R_callV1 (pc := 94) (T := TX1) cal_X1_release kw296 kw298 kw2 dX1_fight_94 (c_X1_release (by assumption) (by assumption)) (by decide) (Nat.le_of_ble_eq_true rfl) (ci := 1) rfl (by assumption) ?_
        rintro _ h5 ⟨rfl, e5⟩
        have q5 := gstep_G q4 e5
        have hG5 := gAt q5
        have go5 := hG5.o0
        have gca5 := hG5.c0
        have gcb5 := hG5.c1
        have gi5 := hG5.is
        have gs5 := hG5.sa
        have gsh5_0 := hG5.sh hu
        have gsh5_1 := hG5.sh hv
        refine R_vret (pc := 97) rfl dX1_fight_97 ?_
        exact ⟨rfl, q5.trans (congrArg (gput _ g) (by rw [k_fight, k_fgt2, if_neg (show ¬ 0 < shF (k_fgt1 G u v) u 6 from d_52), if_pos (show 0 < shF (k_fgt1 G u v) v 6 from d_83)]; rfl))⟩
    · skip
      have d_67 := Int32.not_le.mp c_67
      refine R_aload_n0 (pc := 70) dX1_fight_70 ?_
      refine R_aload_n1 (pc := 71) dX1_fight_71 ?_
      refine R_aload_n2 (pc := 72) dX1_fight_72 ?_
      refine R_callV2 (pc := 73) (T := TX1) cal_X1_capture kw292 kw294 kw1 dX1_fight_73 (c_X1_capture (by assumption) (by assumption) (by assumption)) (by decide) (Nat.le_of_ble_eq_true rfl) (ci := 1) rfl (by assumption) ?_
      rintro _ h6 ⟨rfl, e6⟩
      have q6 := gstep_G q2 e6
      have hG6 := gAt q6
      have go6 := hG6.o0
      have gca6 := hG6.c0
      have gcb6 := hG6.c1
      have gi6 := hG6.is
      have gs6 := hG6.sa
      have gsh6_0 := hG6.sh hu
      have gsh6_1 := hG6.sh hv
      refine R_goto (pc := 76) 92 dX1_fight_76 (by decide) ?_
      refine R_aload_n0 (pc := 92) dX1_fight_92 ?_
      refine R_aload_n1 (pc := 93) dX1_fight_93 ?_
      refine R_callV1 (pc := 94) (T := TX1) cal_X1_release kw296 kw298 kw2 dX1_fight_94 (c_X1_release (by assumption) (by assumption)) (by decide) (Nat.le_of_ble_eq_true rfl) (ci := 1) rfl (by assumption) ?_
      rintro _ h7 ⟨rfl, e7⟩
      have q7 := gstep_G q6 e7
      have hG7 := gAt q7
      have go7 := hG7.o0
      have gca7 := hG7.c0
      have gcb7 := hG7.c1
      have gi7 := hG7.is
      have gs7 := hG7.sa
      have gsh7_0 := hG7.sh hu
      have gsh7_1 := hG7.sh hv
      refine R_vret (pc := 97) rfl dX1_fight_97 ?_
      exact absurd d_67 d_52
  · skip
    have d_52 := Int32.not_le.mp c_52
    refine R_aload_n2 (pc := 55) dX1_fight_55 ?_
    refine G_X1_117 (pc := 56) dX1_fight_56 (by assumption) ?_
    refine R_if_le (pc := 59) 63 dX1_fight_59 (by decide) (fun c_59 => ?_) (fun c_59 => ?_)
    · skip
      have d_59 := Int32.not_lt.mpr c_59
      refine R_aload_n1 (pc := 63) dX1_fight_63 ?_
      refine G_X1_117 (pc := 64) dX1_fight_64 (by assumption) ?_
      refine R_if_le (pc := 67) 79 dX1_fight_67 (by decide) (fun c_67 => ?_) (fun c_67 => ?_)
      · skip
        have d_67 := Int32.not_lt.mpr c_67
        refine R_aload_n2 (pc := 79) dX1_fight_79 ?_
        refine G_X1_117 (pc := 80) dX1_fight_80 (by assumption) ?_
        refine R_if_le (pc := 83) 92 dX1_fight_83 (by decide) (fun c_83 => ?_) (fun c_83 => ?_)
        · skip
          have d_83 := Int32.not_lt.mpr c_83
          refine R_aload_n0 (pc := 92) dX1_fight_92 ?_
          refine R_aload_n1 (pc := 93) dX1_fight_93 ?_
          refine R_callV1 (pc := 94) (T := TX1) cal_X1_release kw296 kw298 kw2 dX1_fight_94 (c_X1_release (by assumption) (by assumption)) (by decide) (Nat.le_of_ble_eq_true rfl) (ci := 1) rfl (by assumption) ?_
          rintro _ h8 ⟨rfl, e8⟩
          have q8 := gstep_G q2 e8
          have hG8 := gAt q8
          have go8 := hG8.o0
          have gca8 := hG8.c0
          have gcb8 := hG8.c1
          have gi8 := hG8.is
          have gs8 := hG8.sa
          have gsh8_0 := hG8.sh hu
          have gsh8_1 := hG8.sh hv
          refine R_vret (pc := 97) rfl dX1_fight_97 ?_
          exact absurd d_52 d_67
        · skip
          have d_83 := Int32.not_le.mp c_83
          refine R_aload_n0 (pc := 86) dX1_fight_86 ?_
          refine R_aload_n2 (pc := 87) dX1_fight_87 ?_
          refine R_aload_n1 (pc := 88) dX1_fight_88 ?_
          refine R_callV2 (pc := 89) (T := TX1) cal_X1_capture kw292 kw294 kw1 dX1_fight_89 (c_X1_capture (by assumption) (by assumption) (by assumption)) (by decide) (Nat.le_of_ble_eq_true rfl) (ci := 1) rfl (by assumption) ?_
          rintro _ h9 ⟨rfl, e9⟩
          have q9 := gstep_G q2 e9
          have hG9 := gAt q9
          have go9 := hG9.o0
          have gca9 := hG9.c0
          have gcb9 := hG9.c1
          have gi9 := hG9.is
          have gs9 := hG9.sa
          have gsh9_0 := hG9.sh hu
          have gsh9_1 := hG9.sh hv
          refine R_aload_n0 (pc := 92) dX1_fight_92 ?_
          refine R_aload_n1 (pc := 93) dX1_fight_93 ?_
          refine R_callV1 (pc := 94) (T := TX1) cal_X1_release kw296 kw298 kw2 dX1_fight_94 (c_X1_release (by assumption) (by assumption)) (by decide) (Nat.le_of_ble_eq_true rfl) (ci := 1) rfl (by assumption) ?_
          rintro _ h10 ⟨rfl, e10⟩
          have q10 := gstep_G q9 e10
          have hG10 := gAt q10
          have go10 := hG10.o0
          have gca10 := hG10.c0
          have gcb10 := hG10.c1
          have gi10 := hG10.is
          have gs10 := hG10.sa
          have gsh10_0 := hG10.sh hu
          have gsh10_1 := hG10.sh hv
          refine R_vret (pc := 97) rfl dX1_fight_97 ?_
          exact absurd d_52 d_67
      · skip
        have d_67 := Int32.not_le.mp c_67
        refine R_aload_n0 (pc := 70) dX1_fight_70 ?_
        refine R_aload_n1 (pc := 71) dX1_fight_71 ?_
        refine R_aload_n2 (pc := 72) dX1_fight_72 ?_
        refine R_callV2 (pc := 73) (T := TX1) cal_X1_capture kw292 kw294 kw1 dX1_fight_73 (c_X1_capture (by assumption) (by assumption) (by assumption)) (by decide) (Nat.le_of_ble_eq_true rfl) (ci := 1) rfl (by assumption) ?_
        rintro _ h11 ⟨rfl, e11⟩
        have q11 := gstep_G q2 e11
        have hG11 := gAt q11
        have go11 := hG11.o0
        have gca11 := hG11.c0
        have gcb11 := hG11.c1
        have gi11 := hG11.is
        have gs11 := hG11.sa
        have gsh11_0 := hG11.sh hu
        have gsh11_1 := hG11.sh hv
        refine R_goto (pc := 76) 92 dX1_fight_76 (by decide) ?_
        refine R_aload_n0 (pc := 92) dX1_fight_92 ?_
        refine R_aload_n1 (pc := 93) dX1_fight_93 ?_
        refine R_callV1 (pc := 94) (T := TX1) cal_X1_release kw296 kw298 kw2 dX1_fight_94 (c_X1_release (by assumption) (by assumption)) (by decide) (Nat.le_of_ble_eq_true rfl) (ci := 1) rfl (by assumption) ?_
        rintro _ h12 ⟨rfl, e12⟩
        have q12 := gstep_G q11 e12
        have hG12 := gAt q12
        have go12 := hG12.o0
        have gca12 := hG12.c0
        have gcb12 := hG12.c1
        have gi12 := hG12.is
        have gs12 := hG12.sa
        have gsh12_0 := hG12.sh hu
        have gsh12_1 := hG12.sh hv
        refine R_vret (pc := 97) rfl dX1_fight_97 ?_
        exact ⟨rfl, q12.trans (congrArg (gput _ g) (by rw [k_fight, k_fgt2, if_pos (show 0 < shF (k_fgt1 G u v) u 6 from d_52), if_neg (show ¬ 0 < shF (k_fgt1 G u v) v 6 from d_59)]; rfl))⟩
    · skip
      have d_59 := Int32.not_le.mp c_59
      refine R_vret (pc := 62) rfl dX1_fight_62 ?_
      exact ⟨rfl, q2.trans (congrArg (gput _ g) (by rw [k_fight, k_fgt2, if_pos (show 0 < shF (k_fgt1 G u v) u 6 from d_52), if_pos (show 0 < shF (k_fgt1 G u v) v 6 from d_59)]; rfl))⟩

set_option maxHeartbeats 4000000 in
set_option maxRecDepth 100000 in
theorem c_X1_cutLoose (hG : GmAt h g G) {a : Int32} : Spec l D cA N0 m_X1_cutLoose 2 0 0 [.ref g, .int a] h (fun r h' => r = some (.int (k_cut G a).1) ∧ h' = gput h g (k_cut G a).2) := by
  refine Spec.of (L := [some (.ref g), some (.int a), none, none]) (by decide) rfl (Nat.le_of_ble_eq_true rfl) ?_
  have go := hG.o0
  have gc0 := hG.c0
  have gc1 := hG.c1
  have gi := hG.is
  have gs := hG.sa
  have q0 := (gput_self hG).symm
  refine R_aload_n0 (pc := 0) dX1_cutLoose_0 ?_
  refine R_iload_n1 (pc := 1) dX1_cutLoose_1 ?_
  refine R_callV1 (pc := 2) (T := TX1) cal_X1_known kw281 kw282 kw283 dX1_cutLoose_2 (c_X1_known (by assumption)) (by decide) (Nat.le_of_ble_eq_true rfl) (ci := 1) rfl (by assumption) ?_
  rintro _ _ ⟨⟨z2, hz2, rfl⟩, rfl⟩
  rcases k_known_cases _ _ with ⟨kv2, kz2⟩ | ⟨k2, kl2, kx2, kv2, kz2⟩ <;> (rw [kz2] at hz2; subst hz2)
  · skip
    refine R_astoreN_n2 (pc := 5) dX1_cutLoose_5 rfl (by decide) ?_
    refine R_aloadN_n2 (pc := 6) dX1_cutLoose_6 ?_
    refine R_ifnonnullN (pc := 7) dX1_cutLoose_7 ?_
    refine R_iconst (pc := 10) (v := (-1)) dX1_cutLoose_10 (by decide) ?_
    refine R_iret (pc := 11) rfl rfl dX1_cutLoose_11 ?_
    exact ⟨by simp (decide := true) only [k_cut, kz2, reduceCtorEq, if_true, if_false, reduceIte, and_true, true_and, and_false, false_and, and_self, or_true, true_or, or_false, false_or, or_self, not_true, not_false_iff]; try rfl, q0.trans (congrArg (gput _ g) (by simp (decide := true) only [k_cut, kz2, reduceCtorEq, if_true, if_false, reduceIte, and_true, true_and, and_false, false_and, and_self, or_true, true_or, or_false, false_or, or_self, not_true, not_false_iff]; try rfl))⟩
  · skip
    have kg2 := hG.sh kl2
    refine R_astore_n2 (pc := 5) dX1_cutLoose_5 rfl (by decide) ?_
    refine R_aload_n2 (pc := 6) dX1_cutLoose_6 ?_
    refine R_ifnonnull (pc := 7) 12 dX1_cutLoose_7 (by decide) ?_
    refine R_aload_n0 (pc := 12) dX1_cutLoose_12 ?_
    refine R_aload_n2 (pc := 13) dX1_cutLoose_13 ?_
    refine G_X1_223 (pc := 14) dX1_cutLoose_14 (by assumption) ?_
    refine R_callV1 (pc := 17) (T := TX1) cal_X1_known kw281 kw282 kw283 dX1_cutLoose_17 (c_X1_known (by assumption)) (by decide) (Nat.le_of_ble_eq_true rfl) (ci := 1) rfl (by assumption) ?_
    rintro _ _ ⟨⟨z17, hz17, rfl⟩, rfl⟩
    rcases k_known_cases _ _ with ⟨kv17, kz17⟩ | ⟨k17, kl17, kx17, kv17, kz17⟩ <;> (rw [kz17] at hz17; subst hz17)
    · skip
      refine R_astoreN_n3 (pc := 20) dX1_cutLoose_20 rfl (by decide) ?_
      refine R_aload_n0 (pc := 21) dX1_cutLoose_21 ?_
      refine G_X1_43 (pc := 22) dX1_cutLoose_22 (by assumption) ?_
      refine R_if_eq (pc := 25) 43 dX1_cutLoose_25 (by decide) (fun c_25 => ?_) (fun c_25 => ?_)
      · skip
        refine R_bipush (pc := 43) (v := (-2)) dX1_cutLoose_43 (by decide) ?_
        refine R_iret (pc := 45) rfl rfl dX1_cutLoose_45 ?_
        exact ⟨by simp (decide := true) only [k_cut, kz2, kz17, c_25, reduceCtorEq, if_true, if_false, reduceIte, and_true, true_and, and_false, false_and, and_self, or_true, true_or, or_false, false_or, or_self, not_true, not_false_iff]; try rfl, q0.trans (congrArg (gput _ g) (by simp (decide := true) only [k_cut, kz2, kz17, c_25, reduceCtorEq, if_true, if_false, reduceIte, and_true, true_and, and_false, false_and, and_self, or_true, true_or, or_false, false_or, or_self, not_true, not_false_iff]; try rfl))⟩
      · skip
        refine R_aloadN_n3 (pc := 28) dX1_cutLoose_28 ?_
        refine R_ifnullN (pc := 29) 43 dX1_cutLoose_29 (by decide) ?_
        refine R_bipush (pc := 43) (v := (-2)) dX1_cutLoose_43 (by decide) ?_
        refine R_iret (pc := 45) rfl rfl dX1_cutLoose_45 ?_
        exact ⟨by simp (decide := true) only [k_cut, kz2, kz17, c_25, reduceCtorEq, if_true, if_false, reduceIte, and_true, true_and, and_false, false_and, and_self, or_true, true_or, or_false, false_or, or_self, not_true, not_false_iff]; try rfl, q0.trans (congrArg (gput _ g) (by simp (decide := true) only [k_cut, kz2, kz17, c_25, reduceCtorEq, if_true, if_false, reduceIte, and_true, true_and, and_false, false_and, and_self, or_true, true_or, or_false, false_or, or_self, not_true, not_false_iff]; try rfl))⟩
    · skip
      have kg17 := hG.sh kl17
      refine R_astore_n3 (pc := 20) dX1_cutLoose_20 rfl (by decide) ?_
      refine R_aload_n0 (pc := 21) dX1_cutLoose_21 ?_
      refine G_X1_43 (pc := 22) dX1_cutLoose_22 (by assumption) ?_
      refine R_if_eq (pc := 25) 43 dX1_cutLoose_25 (by decide) (fun c_25 => ?_) (fun c_25 => ?_)
      · skip
        refine R_bipush (pc := 43) (v := (-2)) dX1_cutLoose_43 (by decide) ?_
        refine R_iret (pc := 45) rfl rfl dX1_cutLoose_45 ?_
        exact ⟨by simp (decide := true) only [k_cut, kz2, kz17, c_25, reduceCtorEq, if_true, if_false, reduceIte, and_true, true_and, and_false, false_and, and_self, or_true, true_or, or_false, false_or, or_self, not_true, not_false_iff]; try rfl, q0.trans (congrArg (gput _ g) (by simp (decide := true) only [k_cut, kz2, kz17, c_25, reduceCtorEq, if_true, if_false, reduceIte, and_true, true_and, and_false, false_and, and_self, or_true, true_or, or_false, false_or, or_self, not_true, not_false_iff]; try rfl))⟩
      · skip
        refine R_aload_n3 (pc := 28) dX1_cutLoose_28 ?_
        refine R_ifnull (pc := 29) dX1_cutLoose_29 ?_
        refine R_aload_n2 (pc := 32) dX1_cutLoose_32 ?_
        refine G_X1_117 (pc := 33) dX1_cutLoose_33 (by assumption) ?_
        refine R_aload_n3 (pc := 36) dX1_cutLoose_36 ?_
        refine G_X1_117 (pc := 37) dX1_cutLoose_37 (by assumption) ?_
        refine R_icmp_ge (pc := 40) 46 dX1_cutLoose_40 (by decide) (fun c_40 => ?_) (fun c_40 => ?_)
        · skip
          have d_40 := Int32.not_lt.mpr c_40
          refine R_aload_n0 (pc := 46) dX1_cutLoose_46 ?_
          refine R_aload_n2 (pc := 47) dX1_cutLoose_47 ?_
          refine R_callV1 (pc := 48) (T := TX1) cal_X1_release kw296 kw298 kw2 dX1_cutLoose_48 (c_X1_release (by assumption) (by assumption)) (by decide) (Nat.le_of_ble_eq_true rfl) (ci := 1) rfl (by assumption) ?_
          rintro _ h1 ⟨rfl, e1⟩
          have q1 := gstep_G q0 e1
          have hG1 := gAt q1
          have go1 := hG1.o0
          have gca1 := hG1.c0
          have gcb1 := hG1.c1
          have gi1 := hG1.is
          have gs1 := hG1.sa
          have gsh1_0 := hG1.sh kl2
          have gsh1_1 := hG1.sh kl17
          refine R_aload_n3 (pc := 51) dX1_cutLoose_51 ?_
          refine G_X1_94 (pc := 52) dX1_cutLoose_52 (by assumption) ?_
          refine R_iret (pc := 55) rfl rfl dX1_cutLoose_55 ?_
          exact ⟨by simp (decide := true) only [k_cut, kz2, kz17, c_25, c_40, d_40, reduceCtorEq, if_true, if_false, reduceIte, and_true, true_and, and_false, false_and, and_self, or_true, true_or, or_false, false_or, or_self, not_true, not_false_iff]; try rfl, q1.trans (congrArg (gput _ g) (by simp (decide := true) only [k_cut, kz2, kz17, c_25, c_40, d_40, reduceCtorEq, if_true, if_false, reduceIte, and_true, true_and, and_false, false_and, and_self, or_true, true_or, or_false, false_or, or_self, not_true, not_false_iff]; try rfl))⟩
        · skip
          have d_40 := Int32.not_le.mp c_40
          refine R_bipush (pc := 43) (v := (-2)) dX1_cutLoose_43 (by decide) ?_
          refine R_iret (pc := 45) rfl rfl dX1_cutLoose_45 ?_
          exact ⟨by simp (decide := true) only [k_cut, kz2, kz17, c_25, c_40, d_40, reduceCtorEq, if_true, if_false, reduceIte, and_true, true_and, and_false, false_and, and_self, or_true, true_or, or_false, false_or, or_self, not_true, not_false_iff]; try rfl, q0.trans (congrArg (gput _ g) (by simp (decide := true) only [k_cut, kz2, kz17, c_25, c_40, d_40, reduceCtorEq, if_true, if_false, reduceIte, and_true, true_and, and_false, false_and, and_self, or_true, true_or, or_false, false_or, or_self, not_true, not_false_iff]; try rfl))⟩

set_option maxHeartbeats 4000000 in
set_option maxRecDepth 100000 in
theorem c_X1_grappleTwo (hG : GmAt h g G) (hx : ∀ i, i < 8 → 0 ≤ shF G i 2 ∧ shF G i 2 < 81) {a b : Int32} : Spec l D cA N0 m_X1_grappleTwo 3 0 0 [.ref g, .int a, .int b] h (fun r h' => r = some (.int (k_grap G a b).1) ∧ h' = gput h g (k_grap G a b).2) := by
  refine Spec.of (L := [some (.ref g), some (.int a), some (.int b), none, none, none]) (by decide) rfl (Nat.le_of_ble_eq_true rfl) ?_
  have go := hG.o0
  have gc0 := hG.c0
  have gc1 := hG.c1
  have gi := hG.is
  have gs := hG.sa
  have q0 := (gput_self hG).symm
  refine R_aload_n0 (pc := 0) dX1_grappleTwo_0 ?_
  refine R_iload_n1 (pc := 1) dX1_grappleTwo_1 ?_
  refine R_callV1 (pc := 2) (T := TX1) cal_X1_known kw281 kw282 kw283 dX1_grappleTwo_2 (c_X1_known (by assumption)) (by decide) (Nat.le_of_ble_eq_true rfl) (ci := 1) rfl (by assumption) ?_
  rintro _ _ ⟨⟨z2, hz2, rfl⟩, rfl⟩
  rcases k_known_cases _ _ with ⟨kv2, kz2⟩ | ⟨k2, kl2, kx2, kv2, kz2⟩ <;> (rw [kz2] at hz2; subst hz2)
  · skip
    refine R_astoreN_n3 (pc := 5) dX1_grappleTwo_5 rfl (by decide) ?_
    refine R_aload_n0 (pc := 6) dX1_grappleTwo_6 ?_
    refine R_iload_n2 (pc := 7) dX1_grappleTwo_7 ?_
    refine R_callV1 (pc := 8) (T := TX1) cal_X1_known kw281 kw282 kw283 dX1_grappleTwo_8 (c_X1_known (by assumption)) (by decide) (Nat.le_of_ble_eq_true rfl) (ci := 1) rfl (by assumption) ?_
    rintro _ _ ⟨⟨z8, hz8, rfl⟩, rfl⟩
    rcases k_known_cases _ _ with ⟨kv8, kz8⟩ | ⟨k8, kl8, kx8, kv8, kz8⟩ <;> (rw [kz8] at hz8; subst hz8)
    · skip
      refine R_astoreN4 (pc := 11) dX1_grappleTwo_11 rfl (by decide) ?_
      refine R_aloadN_n3 (pc := 13) dX1_grappleTwo_13 ?_
      refine R_ifnullN (pc := 14) 27 dX1_grappleTwo_14 (by decide) ?_
      refine R_iconst (pc := 27) (v := (-1)) dX1_grappleTwo_27 (by decide) ?_
      refine R_iret (pc := 28) rfl rfl dX1_grappleTwo_28 ?_
      exact ⟨by simp (decide := true) only [k_grap, kz2, kz8, reduceCtorEq, if_true, if_false, reduceIte, and_true, true_and, and_false, false_and, and_self, or_true, true_or, or_false, false_or, or_self, not_true, not_false_iff]; try rfl, q0.trans (congrArg (gput _ g) (by simp (decide := true) only [k_grap, kz2, kz8, reduceCtorEq, if_true, if_false, reduceIte, and_true, true_and, and_false, false_and, and_self, or_true, true_or, or_false, false_or, or_self, not_true, not_false_iff]; try rfl))⟩
    · skip
      have kg8 := hG.sh kl8
      refine R_astore4 (pc := 11) dX1_grappleTwo_11 rfl (by decide) ?_
      refine R_aloadN_n3 (pc := 13) dX1_grappleTwo_13 ?_
      refine R_ifnullN (pc := 14) 27 dX1_grappleTwo_14 (by decide) ?_
      refine R_iconst (pc := 27) (v := (-1)) dX1_grappleTwo_27 (by decide) ?_
      refine R_iret (pc := 28) rfl rfl dX1_grappleTwo_28 ?_
      exact ⟨by simp (decide := true) only [k_grap, kz2, kz8, reduceCtorEq, if_true, if_false, reduceIte, and_true, true_and, and_false, false_and, and_self, or_true, true_or, or_false, false_or, or_self, not_true, not_false_iff]; try rfl, q0.trans (congrArg (gput _ g) (by simp (decide := true) only [k_grap, kz2, kz8, reduceCtorEq, if_true, if_false, reduceIte, and_true, true_and, and_false, false_and, and_self, or_true, true_or, or_false, false_or, or_self, not_true, not_false_iff]; try rfl))⟩
  · skip
    have kg2 := hG.sh kl2
    refine R_astore_n3 (pc := 5) dX1_grappleTwo_5 rfl (by decide) ?_
    refine R_aload_n0 (pc := 6) dX1_grappleTwo_6 ?_
    refine R_iload_n2 (pc := 7) dX1_grappleTwo_7 ?_
    refine R_callV1 (pc := 8) (T := TX1) cal_X1_known kw281 kw282 kw283 dX1_grappleTwo_8 (c_X1_known (by assumption)) (by decide) (Nat.le_of_ble_eq_true rfl) (ci := 1) rfl (by assumption) ?_
    rintro _ _ ⟨⟨z8, hz8, rfl⟩, rfl⟩
    rcases k_known_cases _ _ with ⟨kv8, kz8⟩ | ⟨k8, kl8, kx8, kv8, kz8⟩ <;> (rw [kz8] at hz8; subst hz8)
    · skip
      refine R_astoreN4 (pc := 11) dX1_grappleTwo_11 rfl (by decide) ?_
      refine R_aload_n3 (pc := 13) dX1_grappleTwo_13 ?_
      refine R_ifnull (pc := 14) dX1_grappleTwo_14 ?_
      refine R_aloadN4 (pc := 17) dX1_grappleTwo_17 ?_
      refine R_ifnullN (pc := 19) 27 dX1_grappleTwo_19 (by decide) ?_
      refine R_iconst (pc := 27) (v := (-1)) dX1_grappleTwo_27 (by decide) ?_
      refine R_iret (pc := 28) rfl rfl dX1_grappleTwo_28 ?_
      exact ⟨by simp (decide := true) only [k_grap, kz2, kz8, reduceCtorEq, if_true, if_false, reduceIte, and_true, true_and, and_false, false_and, and_self, or_true, true_or, or_false, false_or, or_self, not_true, not_false_iff]; try rfl, q0.trans (congrArg (gput _ g) (by simp (decide := true) only [k_grap, kz2, kz8, reduceCtorEq, if_true, if_false, reduceIte, and_true, true_and, and_false, false_and, and_self, or_true, true_or, or_false, false_or, or_self, not_true, not_false_iff]; try rfl))⟩
    · skip
      have kg8 := hG.sh kl8
      refine R_astore4 (pc := 11) dX1_grappleTwo_11 rfl (by decide) ?_
      refine R_aload_n3 (pc := 13) dX1_grappleTwo_13 ?_
      refine R_ifnull (pc := 14) dX1_grappleTwo_14 ?_
      refine R_aload4 (pc := 17) dX1_grappleTwo_17 ?_
      refine R_ifnull (pc := 19) dX1_grappleTwo_19 ?_
      refine R_iload_n1 (pc := 22) dX1_grappleTwo_22 ?_
      refine R_iload_n2 (pc := 23) dX1_grappleTwo_23 ?_
      refine R_icmp_ne (pc := 24) 29 dX1_grappleTwo_24 (by decide) (fun c_24 => ?_) (fun c_24 => ?_)
      · skip
        refine R_aload_n3 (pc := 29) dX1_grappleTwo_29 ?_
        refine R_callV0 (pc := 30) (T := TX7) cal_X7_floats kw369 kw370 kw371 dX1_grappleTwo_30 (c_X7_floats (by assumption)) (by decide) (Nat.le_of_ble_eq_true rfl) (ci := 5) rfl (by assumption) ?_
        rintro _ _ ⟨rfl, rfl⟩
        refine R_ifb_eq (pc := 33) 63 dX1_grappleTwo_33 (by decide) (fun c_33 => ?_) (fun c_33 => ?_)
        · skip
          refine R_iconst (pc := 63) (v := 0) dX1_grappleTwo_63 (by decide) ?_
          refine R_istore5 (pc := 64) dX1_grappleTwo_64 rfl (by decide) ?_
          refine R_aload_n0 (pc := 66) dX1_grappleTwo_66 ?_
          refine G_X1_43 (pc := 67) dX1_grappleTwo_67 (by assumption) ?_
          refine R_if_eq (pc := 70) 119 dX1_grappleTwo_70 (by decide) (fun c_70 => ?_) (fun c_70 => ?_)
          · skip
            refine R_bipush (pc := 119) (v := (-2)) dX1_grappleTwo_119 (by decide) ?_
            refine R_iret (pc := 121) rfl rfl dX1_grappleTwo_121 ?_
            exact ⟨by simp (decide := true) only [k_grap, kz2, kz8, c_24, c_33, c_70, reduceCtorEq, if_true, if_false, reduceIte, and_true, true_and, and_false, false_and, and_self, or_true, true_or, or_false, false_or, or_self, not_true, not_false_iff]; try rfl, q0.trans (congrArg (gput _ g) (by simp (decide := true) only [k_grap, kz2, kz8, c_24, c_33, c_70, reduceCtorEq, if_true, if_false, reduceIte, and_true, true_and, and_false, false_and, and_self, or_true, true_or, or_false, false_or, or_self, not_true, not_false_iff]; try rfl))⟩
          · skip
            refine R_iload5 (pc := 73) dX1_grappleTwo_73 ?_
            refine R_if_eq (pc := 75) 119 dX1_grappleTwo_75 (by decide) (fun _ => ?_) (fun c0 => False.elim (by revert c0; decide))
            refine R_bipush (pc := 119) (v := (-2)) dX1_grappleTwo_119 (by decide) ?_
            refine R_iret (pc := 121) rfl rfl dX1_grappleTwo_121 ?_
            exact ⟨by simp (decide := true) only [k_grap, kz2, kz8, c_24, c_33, c_70, reduceCtorEq, if_true, if_false, reduceIte, and_true, true_and, and_false, false_and, and_self, or_true, true_or, or_false, false_or, or_self, not_true, not_false_iff]; try rfl, q0.trans (congrArg (gput _ g) (by simp (decide := true) only [k_grap, kz2, kz8, c_24, c_33, c_70, reduceCtorEq, if_true, if_false, reduceIte, and_true, true_and, and_false, false_and, and_self, or_true, true_or, or_false, false_or, or_self, not_true, not_false_iff]; try rfl))⟩
        · skip
          refine R_aload4 (pc := 36) dX1_grappleTwo_36 ?_
          refine R_callV0 (pc := 38) (T := TX7) cal_X7_floats kw369 kw370 kw371 dX1_grappleTwo_38 (c_X7_floats (by assumption)) (by decide) (Nat.le_of_ble_eq_true rfl) (ci := 5) rfl (by assumption) ?_
          rintro _ _ ⟨rfl, rfl⟩
          refine R_ifb_eq (pc := 41) 63 dX1_grappleTwo_41 (by decide) (fun c_41 => ?_) (fun c_41 => ?_)
          · skip
            refine R_iconst (pc := 63) (v := 0) dX1_grappleTwo_63 (by decide) ?_
            refine R_istore5 (pc := 64) dX1_grappleTwo_64 rfl (by decide) ?_
            refine R_aload_n0 (pc := 66) dX1_grappleTwo_66 ?_
            refine G_X1_43 (pc := 67) dX1_grappleTwo_67 (by assumption) ?_
            refine R_if_eq (pc := 70) 119 dX1_grappleTwo_70 (by decide) (fun c_70 => ?_) (fun c_70 => ?_)
            · skip
              refine R_bipush (pc := 119) (v := (-2)) dX1_grappleTwo_119 (by decide) ?_
              refine R_iret (pc := 121) rfl rfl dX1_grappleTwo_121 ?_
              exact ⟨by simp (decide := true) only [k_grap, kz2, kz8, c_24, c_33, c_41, c_70, reduceCtorEq, if_true, if_false, reduceIte, and_true, true_and, and_false, false_and, and_self, or_true, true_or, or_false, false_or, or_self, not_true, not_false_iff]; try rfl, q0.trans (congrArg (gput _ g) (by simp (decide := true) only [k_grap, kz2, kz8, c_24, c_33, c_41, c_70, reduceCtorEq, if_true, if_false, reduceIte, and_true, true_and, and_false, false_and, and_self, or_true, true_or, or_false, false_or, or_self, not_true, not_false_iff]; try rfl))⟩
            · skip
              refine R_iload5 (pc := 73) dX1_grappleTwo_73 ?_
              refine R_if_eq (pc := 75) 119 dX1_grappleTwo_75 (by decide) (fun _ => ?_) (fun c0 => False.elim (by revert c0; decide))
              refine R_bipush (pc := 119) (v := (-2)) dX1_grappleTwo_119 (by decide) ?_
              refine R_iret (pc := 121) rfl rfl dX1_grappleTwo_121 ?_
              exact ⟨by simp (decide := true) only [k_grap, kz2, kz8, c_24, c_33, c_41, c_70, reduceCtorEq, if_true, if_false, reduceIte, and_true, true_and, and_false, false_and, and_self, or_true, true_or, or_false, false_or, or_self, not_true, not_false_iff]; try rfl, q0.trans (congrArg (gput _ g) (by simp (decide := true) only [k_grap, kz2, kz8, c_24, c_33, c_41, c_70, reduceCtorEq, if_true, if_false, reduceIte, and_true, true_and, and_false, false_and, and_self, or_true, true_or, or_false, false_or, or_self, not_true, not_false_iff]; try rfl))⟩
          · skip
            refine R_aload_n3 (pc := 44) dX1_grappleTwo_44 ?_
            refine R_callV0 (pc := 45) (T := TX7) cal_X7_isGrappled kw651 kw459 kw460 dX1_grappleTwo_45 (c_X7_isGrappled (by assumption)) (by decide) (Nat.le_of_ble_eq_true rfl) (ci := 5) rfl (by assumption) ?_
            rintro _ _ ⟨rfl, rfl⟩
            refine R_ifb_ne (pc := 48) 63 dX1_grappleTwo_48 (by decide) (fun c_48 => ?_) (fun c_48 => ?_)
            · skip
              refine R_iconst (pc := 63) (v := 0) dX1_grappleTwo_63 (by decide) ?_
              refine R_istore5 (pc := 64) dX1_grappleTwo_64 rfl (by decide) ?_
              refine R_aload_n0 (pc := 66) dX1_grappleTwo_66 ?_
              refine G_X1_43 (pc := 67) dX1_grappleTwo_67 (by assumption) ?_
              refine R_if_eq (pc := 70) 119 dX1_grappleTwo_70 (by decide) (fun c_70 => ?_) (fun c_70 => ?_)
              · skip
                refine R_bipush (pc := 119) (v := (-2)) dX1_grappleTwo_119 (by decide) ?_
                refine R_iret (pc := 121) rfl rfl dX1_grappleTwo_121 ?_
                exact ⟨by simp (decide := true) only [k_grap, kz2, kz8, c_24, c_33, c_41, c_48, c_70, reduceCtorEq, if_true, if_false, reduceIte, and_true, true_and, and_false, false_and, and_self, or_true, true_or, or_false, false_or, or_self, not_true, not_false_iff]; try rfl, q0.trans (congrArg (gput _ g) (by simp (decide := true) only [k_grap, kz2, kz8, c_24, c_33, c_41, c_48, c_70, reduceCtorEq, if_true, if_false, reduceIte, and_true, true_and, and_false, false_and, and_self, or_true, true_or, or_false, false_or, or_self, not_true, not_false_iff]; try rfl))⟩
              · skip
                refine R_iload5 (pc := 73) dX1_grappleTwo_73 ?_
                refine R_if_eq (pc := 75) 119 dX1_grappleTwo_75 (by decide) (fun _ => ?_) (fun c0 => False.elim (by revert c0; decide))
                refine R_bipush (pc := 119) (v := (-2)) dX1_grappleTwo_119 (by decide) ?_
                refine R_iret (pc := 121) rfl rfl dX1_grappleTwo_121 ?_
                exact ⟨by simp (decide := true) only [k_grap, kz2, kz8, c_24, c_33, c_41, c_48, c_70, reduceCtorEq, if_true, if_false, reduceIte, and_true, true_and, and_false, false_and, and_self, or_true, true_or, or_false, false_or, or_self, not_true, not_false_iff]; try rfl, q0.trans (congrArg (gput _ g) (by simp (decide := true) only [k_grap, kz2, kz8, c_24, c_33, c_41, c_48, c_70, reduceCtorEq, if_true, if_false, reduceIte, and_true, true_and, and_false, false_and, and_self, or_true, true_or, or_false, false_or, or_self, not_true, not_false_iff]; try rfl))⟩
            · skip
              refine R_aload4 (pc := 51) dX1_grappleTwo_51 ?_
              refine R_callV0 (pc := 53) (T := TX7) cal_X7_isGrappled kw651 kw459 kw460 dX1_grappleTwo_53 (c_X7_isGrappled (by assumption)) (by decide) (Nat.le_of_ble_eq_true rfl) (ci := 5) rfl (by assumption) ?_
              rintro _ _ ⟨rfl, rfl⟩
              refine R_ifb_ne (pc := 56) 63 dX1_grappleTwo_56 (by decide) (fun c_56 => ?_) (fun c_56 => ?_)
              · skip
                refine R_iconst (pc := 63) (v := 0) dX1_grappleTwo_63 (by decide) ?_
                refine R_istore5 (pc := 64) dX1_grappleTwo_64 rfl (by decide) ?_
                refine R_aload_n0 (pc := 66) dX1_grappleTwo_66 ?_
                refine G_X1_43 (pc := 67) dX1_grappleTwo_67 (by assumption) ?_
                refine R_if_eq (pc := 70) 119 dX1_grappleTwo_70 (by decide) (fun c_70 => ?_) (fun c_70 => ?_)
                · skip
                  refine R_bipush (pc := 119) (v := (-2)) dX1_grappleTwo_119 (by decide) ?_
                  refine R_iret (pc := 121) rfl rfl dX1_grappleTwo_121 ?_
                  exact ⟨by simp (decide := true) only [k_grap, kz2, kz8, c_24, c_33, c_41, c_48, c_56, c_70, reduceCtorEq, if_true, if_false, reduceIte, and_true, true_and, and_false, false_and, and_self, or_true, true_or, or_false, false_or, or_self, not_true, not_false_iff]; try rfl, q0.trans (congrArg (gput _ g) (by simp (decide := true) only [k_grap, kz2, kz8, c_24, c_33, c_41, c_48, c_56, c_70, reduceCtorEq, if_true, if_false, reduceIte, and_true, true_and, and_false, false_and, and_self, or_true, true_or, or_false, false_or, or_self, not_true, not_false_iff]; try rfl))⟩
                · skip
                  refine R_iload5 (pc := 73) dX1_grappleTwo_73 ?_
                  refine R_if_eq (pc := 75) 119 dX1_grappleTwo_75 (by decide) (fun _ => ?_) (fun c0 => False.elim (by revert c0; decide))
                  refine R_bipush (pc := 119) (v := (-2)) dX1_grappleTwo_119 (by decide) ?_
                  refine R_iret (pc := 121) rfl rfl dX1_grappleTwo_121 ?_
                  exact ⟨by simp (decide := true) only [k_grap, kz2, kz8, c_24, c_33, c_41, c_48, c_56, c_70, reduceCtorEq, if_true, if_false, reduceIte, and_true, true_and, and_false, false_and, and_self, or_true, true_or, or_false, false_or, or_self, not_true, not_false_iff]; try rfl, q0.trans (congrArg (gput _ g) (by simp (decide := true) only [k_grap, kz2, kz8, c_24, c_33, c_41, c_48, c_56, c_70, reduceCtorEq, if_true, if_false, reduceIte, and_true, true_and, and_false, false_and, and_self, or_true, true_or, or_false, false_or, or_self, not_true, not_false_iff]; try rfl))⟩
              · skip
                refine R_iconst (pc := 59) (v := 1) dX1_grappleTwo_59 (by decide) ?_
                refine R_goto (pc := 60) 64 dX1_grappleTwo_60 (by decide) ?_
                refine R_istore5 (pc := 64) dX1_grappleTwo_64 rfl (by decide) ?_
                refine R_aload_n0 (pc := 66) dX1_grappleTwo_66 ?_
                refine G_X1_43 (pc := 67) dX1_grappleTwo_67 (by assumption) ?_
                refine R_if_eq (pc := 70) 119 dX1_grappleTwo_70 (by decide) (fun c_70 => ?_) (fun c_70 => ?_)
                · skip
                  refine R_bipush (pc := 119) (v := (-2)) dX1_grappleTwo_119 (by decide) ?_
                  refine R_iret (pc := 121) rfl rfl dX1_grappleTwo_121 ?_
                  exact ⟨by simp (decide := true) only [k_grap, kz2, kz8, c_24, c_33, c_41, c_48, c_56, c_70, reduceCtorEq, if_true, if_false, reduceIte, and_true, true_and, and_false, false_and, and_self, or_true, true_or, or_false, false_or, or_self, not_true, not_false_iff]; try rfl, q0.trans (congrArg (gput _ g) (by simp (decide := true) only [k_grap, kz2, kz8, c_24, c_33, c_41, c_48, c_56, c_70, reduceCtorEq, if_true, if_false, reduceIte, and_true, true_and, and_false, false_and, and_self, or_true, true_or, or_false, false_or, or_self, not_true, not_false_iff]; try rfl))⟩
                · skip
                  refine R_iload5 (pc := 73) dX1_grappleTwo_73 ?_
                  refine R_if_eq (pc := 75) 119 dX1_grappleTwo_75 (by decide) (fun c0 => False.elim (by revert c0; decide)) (fun _ => ?_)
                  refine R_aload_n3 (pc := 78) dX1_grappleTwo_78 ?_
                  refine G_X1_105 (pc := 79) dX1_grappleTwo_79 (by assumption) ?_
                  refine R_aload4 (pc := 82) dX1_grappleTwo_82 ?_
                  refine G_X1_105 (pc := 84) dX1_grappleTwo_84 (by assumption) ?_
                  refine R_icmp_eq (pc := 87) 119 dX1_grappleTwo_87 (by decide) (fun c_87 => ?_) (fun c_87 => ?_)
                  · skip
                    refine R_bipush (pc := 119) (v := (-2)) dX1_grappleTwo_119 (by decide) ?_
                    refine R_iret (pc := 121) rfl rfl dX1_grappleTwo_121 ?_
                    exact ⟨by simp (decide := true) only [k_grap, kz2, kz8, c_24, c_33, c_41, c_48, c_56, c_70, c_87, reduceCtorEq, if_true, if_false, reduceIte, and_true, true_and, and_false, false_and, and_self, or_true, true_or, or_false, false_or, or_self, not_true, not_false_iff]; try rfl, q0.trans (congrArg (gput _ g) (by simp (decide := true) only [k_grap, kz2, kz8, c_24, c_33, c_41, c_48, c_56, c_70, c_87, reduceCtorEq, if_true, if_false, reduceIte, and_true, true_and, and_false, false_and, and_self, or_true, true_or, or_false, false_or, or_self, not_true, not_false_iff]; try rfl))⟩
                  · skip
                    refine R_aload_n3 (pc := 90) dX1_grappleTwo_90 ?_
                    refine G_X1_73 (pc := 91) dX1_grappleTwo_91 (by assumption) ?_
                    refine R_aload4 (pc := 94) dX1_grappleTwo_94 ?_
                    refine G_X1_73 (pc := 96) dX1_grappleTwo_96 (by assumption) ?_
                    refine R_callS2 (pc := 99) cal_X2_areNeighbors kw652 kw653 dX1_grappleTwo_99 (c_X2_areNeighbors (hx _ (by assumption))) (by decide) (Nat.le_of_ble_eq_true rfl) ?_
                    rintro _ _ ⟨rfl, rfl⟩
                    refine R_ifb_eq (pc := 102) 119 dX1_grappleTwo_102 (by decide) (fun c_102 => ?_) (fun c_102 => ?_)
                    · skip
                      refine R_bipush (pc := 119) (v := (-2)) dX1_grappleTwo_119 (by decide) ?_
                      refine R_iret (pc := 121) rfl rfl dX1_grappleTwo_121 ?_
                      exact ⟨by simp (decide := true) only [k_grap, kz2, kz8, c_24, c_33, c_41, c_48, c_56, c_70, c_87, c_102, reduceCtorEq, if_true, if_false, reduceIte, and_true, true_and, and_false, false_and, and_self, or_true, true_or, or_false, false_or, or_self, not_true, not_false_iff]; try rfl, q0.trans (congrArg (gput _ g) (by simp (decide := true) only [k_grap, kz2, kz8, c_24, c_33, c_41, c_48, c_56, c_70, c_87, c_102, reduceCtorEq, if_true, if_false, reduceIte, and_true, true_and, and_false, false_and, and_self, or_true, true_or, or_false, false_or, or_self, not_true, not_false_iff]; try rfl))⟩
                    · skip
                      refine R_iconst (pc := 105) (v := 2) dX1_grappleTwo_105 (by decide) ?_
                      refine R_aload_n3 (pc := 106) dX1_grappleTwo_106 ?_
                      refine G_X1_117 (pc := 107) dX1_grappleTwo_107 (by assumption) ?_
                      refine R_imul (pc := 110) dX1_grappleTwo_110 ?_
                      refine R_aload4 (pc := 111) dX1_grappleTwo_111 ?_
                      refine G_X1_117 (pc := 113) dX1_grappleTwo_113 (by assumption) ?_
                      refine R_icmp_ge (pc := 116) 122 dX1_grappleTwo_116 (by decide) (fun c_116 => ?_) (fun c_116 => ?_)
                      · skip
                        have d_116 := Int32.not_lt.mpr c_116
                        refine R_aload_n3 (pc := 122) dX1_grappleTwo_122 ?_
                        refine R_aload4 (pc := 123) dX1_grappleTwo_123 ?_
                        refine G_X1_94 (pc := 125) dX1_grappleTwo_125 (by assumption) ?_
                        refine P_X1_223 (pc := 128) dX1_grappleTwo_128 (by assumption) (fun h1 e1 f1 => ?_)
                        have q1 := gstep_s q0 e1 (by assumption) rfl
                        have hG1 := gAt q1
                        have go1 := hG1.o0
                        have gca1 := hG1.c0
                        have gcb1 := hG1.c1
                        have gi1 := hG1.is
                        have gs1 := hG1.sa
                        have gsh1_0 := hG1.sh kl2
                        have gsh1_1 := hG1.sh kl8
                        refine R_aload4 (pc := 131) dX1_grappleTwo_131 ?_
                        refine R_aload_n3 (pc := 133) dX1_grappleTwo_133 ?_
                        refine G_X1_94 (pc := 134) dX1_grappleTwo_134 (by assumption) ?_
                        refine P_X1_223 (pc := 137) dX1_grappleTwo_137 (by assumption) (fun h2 e2 f2 => ?_)
                        have q2 := gstep_s q1 e2 (by assumption) rfl
                        have hG2 := gAt q2
                        have go2 := hG2.o0
                        have gca2 := hG2.c0
                        have gcb2 := hG2.c1
                        have gi2 := hG2.is
                        have gs2 := hG2.sa
                        have gsh2_0 := hG2.sh kl2
                        have gsh2_1 := hG2.sh kl8
                        refine R_aload_n3 (pc := 140) dX1_grappleTwo_140 ?_
                        refine G_X1_117 (pc := 141) dX1_grappleTwo_141 (by assumption) ?_
                        refine R_aload4 (pc := 144) dX1_grappleTwo_144 ?_
                        refine G_X1_117 (pc := 146) dX1_grappleTwo_146 (by assumption) ?_
                        refine R_iadd (pc := 149) dX1_grappleTwo_149 ?_
                        refine R_iret (pc := 150) rfl rfl dX1_grappleTwo_150 ?_
                        exact ⟨by simp (decide := true) only [k_grap, kz2, kz8, c_24, c_33, c_41, c_48, c_56, c_70, c_87, c_102, c_116, d_116, reduceCtorEq, if_true, if_false, reduceIte, and_true, true_and, and_false, false_and, and_self, or_true, true_or, or_false, false_or, or_self, not_true, not_false_iff]; try rfl, q2.trans (congrArg (gput _ g) (by simp (decide := true) only [k_grap, kz2, kz8, c_24, c_33, c_41, c_48, c_56, c_70, c_87, c_102, c_116, d_116, reduceCtorEq, if_true, if_false, reduceIte, and_true, true_and, and_false, false_and, and_self, or_true, true_or, or_false, false_or, or_self, not_true, not_false_iff]; try rfl))⟩
                      · skip
                        have d_116 := Int32.not_le.mp c_116
                        refine R_bipush (pc := 119) (v := (-2)) dX1_grappleTwo_119 (by decide) ?_
                        refine R_iret (pc := 121) rfl rfl dX1_grappleTwo_121 ?_
                        exact ⟨by simp (decide := true) only [k_grap, kz2, kz8, c_24, c_33, c_41, c_48, c_56, c_70, c_87, c_102, c_116, d_116, reduceCtorEq, if_true, if_false, reduceIte, and_true, true_and, and_false, false_and, and_self, or_true, true_or, or_false, false_or, or_self, not_true, not_false_iff]; try rfl, q0.trans (congrArg (gput _ g) (by simp (decide := true) only [k_grap, kz2, kz8, c_24, c_33, c_41, c_48, c_56, c_70, c_87, c_102, c_116, d_116, reduceCtorEq, if_true, if_false, reduceIte, and_true, true_and, and_false, false_and, and_self, or_true, true_or, or_false, false_or, or_self, not_true, not_false_iff]; try rfl))⟩
      · skip
        refine R_iconst (pc := 27) (v := (-1)) dX1_grappleTwo_27 (by decide) ?_
        refine R_iret (pc := 28) rfl rfl dX1_grappleTwo_28 ?_
        exact ⟨by simp (decide := true) only [k_grap, kz2, kz8, c_24, reduceCtorEq, if_true, if_false, reduceIte, and_true, true_and, and_false, false_and, and_self, or_true, true_or, or_false, false_or, or_self, not_true, not_false_iff]; try rfl, q0.trans (congrArg (gput _ g) (by simp (decide := true) only [k_grap, kz2, kz8, c_24, reduceCtorEq, if_true, if_false, reduceIte, and_true, true_and, and_false, false_and, and_self, or_true, true_or, or_false, false_or, or_self, not_true, not_false_iff]; try rfl))⟩

set_option maxHeartbeats 4000000 in
set_option maxRecDepth 100000 in
theorem c_X1_fireAt (hG : GmAt h g G) {a s b : Int32} : Spec l D cA N0 m_X1_fireAt 4 0 0 [.ref g, .int a, .int s, .int b] h (fun r h' => r = some (.int (k_fire G a s b).1) ∧ h' = gput h g (k_fire G a s b).2) := by
  refine Spec.of (L := [some (.ref g), some (.int a), some (.int s), some (.int b), none, none, none, none]) (by decide) rfl (Nat.le_of_ble_eq_true rfl) ?_
  have go := hG.o0
  have gc0 := hG.c0
  have gc1 := hG.c1
  have gi := hG.is
  have gs := hG.sa
  have q0 := (gput_self hG).symm
  refine R_aload_n0 (pc := 0) dX1_fireAt_0 ?_
  refine R_iload_n1 (pc := 1) dX1_fireAt_1 ?_
  refine R_callV1 (pc := 2) (T := TX1) cal_X1_known kw281 kw282 kw283 dX1_fireAt_2 (c_X1_known (by assumption)) (by decide) (Nat.le_of_ble_eq_true rfl) (ci := 1) rfl (by assumption) ?_
  rintro _ _ ⟨⟨z2, hz2, rfl⟩, rfl⟩
  rcases k_known_cases _ _ with ⟨kv2, kz2⟩ | ⟨k2, kl2, kx2, kv2, kz2⟩ <;> (rw [kz2] at hz2; subst hz2)
  · skip
    refine R_astoreN4 (pc := 5) dX1_fireAt_5 rfl (by decide) ?_
    refine R_aload_n0 (pc := 7) dX1_fireAt_7 ?_
    refine R_iload_n3 (pc := 8) dX1_fireAt_8 ?_
    refine R_callV1 (pc := 9) (T := TX1) cal_X1_known kw281 kw282 kw283 dX1_fireAt_9 (c_X1_known (by assumption)) (by decide) (Nat.le_of_ble_eq_true rfl) (ci := 1) rfl (by assumption) ?_
    rintro _ _ ⟨⟨z9, hz9, rfl⟩, rfl⟩
    rcases k_known_cases _ _ with ⟨kv9, kz9⟩ | ⟨k9, kl9, kx9, kv9, kz9⟩ <;> (rw [kz9] at hz9; subst hz9)
    · skip
      refine R_astoreN5 (pc := 12) dX1_fireAt_12 rfl (by decide) ?_
      refine R_aloadN4 (pc := 14) dX1_fireAt_14 ?_
      refine R_ifnullN (pc := 16) 36 dX1_fireAt_16 (by decide) ?_
      refine R_iconst (pc := 36) (v := (-1)) dX1_fireAt_36 (by decide) ?_
      refine R_iret (pc := 37) rfl rfl dX1_fireAt_37 ?_
      exact ⟨by simp (decide := true) only [k_fire, k_fsets, kz2, kz9, reduceCtorEq, if_true, if_false, reduceIte, and_true, true_and, and_false, false_and, and_self, or_true, true_or, or_false, false_or, or_self, not_true, not_false_iff]; try rfl, q0.trans (congrArg (gput _ g) (by simp (decide := true) only [k_fire, k_fsets, kz2, kz9, reduceCtorEq, if_true, if_false, reduceIte, and_true, true_and, and_false, false_and, and_self, or_true, true_or, or_false, false_or, or_self, not_true, not_false_iff]; try rfl))⟩
    · skip
      have kg9 := hG.sh kl9
      refine R_astore5 (pc := 12) dX1_fireAt_12 rfl (by decide) ?_
      refine R_aloadN4 (pc := 14) dX1_fireAt_14 ?_
      refine R_ifnullN (pc := 16) 36 dX1_fireAt_16 (by decide) ?_
      refine R_iconst (pc := 36) (v := (-1)) dX1_fireAt_36 (by decide) ?_
      refine R_iret (pc := 37) rfl rfl dX1_fireAt_37 ?_
      exact ⟨by simp (decide := true) only [k_fire, k_fsets, kz2, kz9, reduceCtorEq, if_true, if_false, reduceIte, and_true, true_and, and_false, false_and, and_self, or_true, true_or, or_false, false_or, or_self, not_true, not_false_iff]; try rfl, q0.trans (congrArg (gput _ g) (by simp (decide := true) only [k_fire, k_fsets, kz2, kz9, reduceCtorEq, if_true, if_false, reduceIte, and_true, true_and, and_false, false_and, and_self, or_true, true_or, or_false, false_or, or_self, not_true, not_false_iff]; try rfl))⟩
  · skip
    have kg2 := hG.sh kl2
    refine R_astore4 (pc := 5) dX1_fireAt_5 rfl (by decide) ?_
    refine R_aload_n0 (pc := 7) dX1_fireAt_7 ?_
    refine R_iload_n3 (pc := 8) dX1_fireAt_8 ?_
    refine R_callV1 (pc := 9) (T := TX1) cal_X1_known kw281 kw282 kw283 dX1_fireAt_9 (c_X1_known (by assumption)) (by decide) (Nat.le_of_ble_eq_true rfl) (ci := 1) rfl (by assumption) ?_
    rintro _ _ ⟨⟨z9, hz9, rfl⟩, rfl⟩
    rcases k_known_cases _ _ with ⟨kv9, kz9⟩ | ⟨k9, kl9, kx9, kv9, kz9⟩ <;> (rw [kz9] at hz9; subst hz9)
    · skip
      refine R_astoreN5 (pc := 12) dX1_fireAt_12 rfl (by decide) ?_
      refine R_aload4 (pc := 14) dX1_fireAt_14 ?_
      refine R_ifnull (pc := 16) dX1_fireAt_16 ?_
      refine R_aloadN5 (pc := 19) dX1_fireAt_19 ?_
      refine R_ifnullN (pc := 21) 36 dX1_fireAt_21 (by decide) ?_
      refine R_iconst (pc := 36) (v := (-1)) dX1_fireAt_36 (by decide) ?_
      refine R_iret (pc := 37) rfl rfl dX1_fireAt_37 ?_
      exact ⟨by simp (decide := true) only [k_fire, k_fsets, kz2, kz9, reduceCtorEq, if_true, if_false, reduceIte, and_true, true_and, and_false, false_and, and_self, or_true, true_or, or_false, false_or, or_self, not_true, not_false_iff]; try rfl, q0.trans (congrArg (gput _ g) (by simp (decide := true) only [k_fire, k_fsets, kz2, kz9, reduceCtorEq, if_true, if_false, reduceIte, and_true, true_and, and_false, false_and, and_self, or_true, true_or, or_false, false_or, or_self, not_true, not_false_iff]; try rfl))⟩
    · skip
      have kg9 := hG.sh kl9
      refine R_astore5 (pc := 12) dX1_fireAt_12 rfl (by decide) ?_
      refine R_aload4 (pc := 14) dX1_fireAt_14 ?_
      refine R_ifnull (pc := 16) dX1_fireAt_16 ?_
      refine R_aload5 (pc := 19) dX1_fireAt_19 ?_
      refine R_ifnull (pc := 21) dX1_fireAt_21 ?_
      refine R_iload_n1 (pc := 24) dX1_fireAt_24 ?_
      refine R_iload_n3 (pc := 25) dX1_fireAt_25 ?_
      refine R_icmp_eq (pc := 26) 36 dX1_fireAt_26 (by decide) (fun c_26 => ?_) (fun c_26 => ?_)
      · skip
        refine R_iconst (pc := 36) (v := (-1)) dX1_fireAt_36 (by decide) ?_
        refine R_iret (pc := 37) rfl rfl dX1_fireAt_37 ?_
        exact ⟨by simp (decide := true) only [k_fire, k_fsets, kz2, kz9, c_26, reduceCtorEq, if_true, if_false, reduceIte, and_true, true_and, and_false, false_and, and_self, or_true, true_or, or_false, false_or, or_self, not_true, not_false_iff]; try rfl, q0.trans (congrArg (gput _ g) (by simp (decide := true) only [k_fire, k_fsets, kz2, kz9, c_26, reduceCtorEq, if_true, if_false, reduceIte, and_true, true_and, and_false, false_and, and_self, or_true, true_or, or_false, false_or, or_self, not_true, not_false_iff]; try rfl))⟩
      · skip
        refine R_iload_n2 (pc := 29) dX1_fireAt_29 ?_
        refine R_callS1 (pc := 30) cal_X7_hasSide kw628 kw495 dX1_fireAt_30 c_X7_hasSide (by decide) (Nat.le_of_ble_eq_true rfl) ?_
        rintro _ _ ⟨rfl, rfl⟩
        refine R_ifb_ne (pc := 33) 38 dX1_fireAt_33 (by decide) (fun c_33 => ?_) (fun c_33 => ?_)
        · skip
          refine R_aload_n0 (pc := 38) dX1_fireAt_38 ?_
          refine R_aload4 (pc := 39) dX1_fireAt_39 ?_
          refine R_iload_n2 (pc := 41) dX1_fireAt_41 ?_
          refine R_aload5 (pc := 42) dX1_fireAt_42 ?_
          refine R_callV3 (pc := 44) (T := TX1) cal_X1_shotLength kw501 kw502 kw503 dX1_fireAt_44 (c_X1_shotLength (by assumption) (by assumption) (by assumption)) (by decide) (Nat.le_of_ble_eq_true rfl) (ci := 1) rfl (by assumption) ?_
          rintro _ _ ⟨rfl, rfl⟩
          refine R_istore6 (pc := 47) dX1_fireAt_47 rfl (by decide) ?_
          refine R_aload_n0 (pc := 49) dX1_fireAt_49 ?_
          refine G_X1_43 (pc := 50) dX1_fireAt_50 (by assumption) ?_
          refine R_if_eq (pc := 53) 82 dX1_fireAt_53 (by decide) (fun c_53 => ?_) (fun c_53 => ?_)
          · skip
            refine R_bipush (pc := 82) (v := (-2)) dX1_fireAt_82 (by decide) ?_
            refine R_iret (pc := 84) rfl rfl dX1_fireAt_84 ?_
            exact ⟨by simp (decide := true) only [k_fire, k_fsets, kz2, kz9, c_26, c_33, c_53, reduceCtorEq, if_true, if_false, reduceIte, and_true, true_and, and_false, false_and, and_self, or_true, true_or, or_false, false_or, or_self, not_true, not_false_iff]; try rfl, q0.trans (congrArg (gput _ g) (by simp (decide := true) only [k_fire, k_fsets, kz2, kz9, c_26, c_33, c_53, reduceCtorEq, if_true, if_false, reduceIte, and_true, true_and, and_false, false_and, and_self, or_true, true_or, or_false, false_or, or_self, not_true, not_false_iff]; try rfl))⟩
          · skip
            refine R_aload4 (pc := 56) dX1_fireAt_56 ?_
            refine R_callV0 (pc := 58) (T := TX7) cal_X7_floats kw369 kw370 kw371 dX1_fireAt_58 (c_X7_floats (by assumption)) (by decide) (Nat.le_of_ble_eq_true rfl) (ci := 5) rfl (by assumption) ?_
            rintro _ _ ⟨rfl, rfl⟩
            refine R_ifb_eq (pc := 61) 82 dX1_fireAt_61 (by decide) (fun c_61 => ?_) (fun c_61 => ?_)
            · skip
              refine R_bipush (pc := 82) (v := (-2)) dX1_fireAt_82 (by decide) ?_
              refine R_iret (pc := 84) rfl rfl dX1_fireAt_84 ?_
              exact ⟨by simp (decide := true) only [k_fire, k_fsets, kz2, kz9, c_26, c_33, c_53, c_61, reduceCtorEq, if_true, if_false, reduceIte, and_true, true_and, and_false, false_and, and_self, or_true, true_or, or_false, false_or, or_self, not_true, not_false_iff]; try rfl, q0.trans (congrArg (gput _ g) (by simp (decide := true) only [k_fire, k_fsets, kz2, kz9, c_26, c_33, c_53, c_61, reduceCtorEq, if_true, if_false, reduceIte, and_true, true_and, and_false, false_and, and_self, or_true, true_or, or_false, false_or, or_self, not_true, not_false_iff]; try rfl))⟩
            · skip
              refine R_aload4 (pc := 64) dX1_fireAt_64 ?_
              refine R_iload_n2 (pc := 66) dX1_fireAt_66 ?_
              refine R_aload_n0 (pc := 67) dX1_fireAt_67 ?_
              refine G_X1_40 (pc := 68) dX1_fireAt_68 (by assumption) ?_
              refine R_callV2 (pc := 71) (T := TX7) cal_X7_isReloading kw629 kw630 kw631 dX1_fireAt_71 (c_X7_isReloading (by assumption)) (by decide) (Nat.le_of_ble_eq_true rfl) (ci := 5) rfl (by assumption) ?_
              rintro _ _ ⟨rfl, rfl⟩
              refine R_ifb_ne (pc := 74) 82 dX1_fireAt_74 (by decide) (fun c_74 => ?_) (fun c_74 => ?_)
              · skip
                refine R_bipush (pc := 82) (v := (-2)) dX1_fireAt_82 (by decide) ?_
                refine R_iret (pc := 84) rfl rfl dX1_fireAt_84 ?_
                exact ⟨by simp (decide := true) only [k_fire, k_fsets, kz2, kz9, c_26, c_33, c_53, c_61, c_74, reduceCtorEq, if_true, if_false, reduceIte, and_true, true_and, and_false, false_and, and_self, or_true, true_or, or_false, false_or, or_self, not_true, not_false_iff]; try rfl, q0.trans (congrArg (gput _ g) (by simp (decide := true) only [k_fire, k_fsets, kz2, kz9, c_26, c_33, c_53, c_61, c_74, reduceCtorEq, if_true, if_false, reduceIte, and_true, true_and, and_false, false_and, and_self, or_true, true_or, or_false, false_or, or_self, not_true, not_false_iff]; try rfl))⟩
              · skip
                refine R_iload6 (pc := 77) dX1_fireAt_77 ?_
                refine R_if_ne (pc := 79) 85 dX1_fireAt_79 (by decide) (fun c_79 => ?_) (fun c_79 => ?_)
                · skip
                  refine R_aload4 (pc := 85) dX1_fireAt_85 ?_
                  refine R_iload6 (pc := 87) dX1_fireAt_87 ?_
                  refine R_callV1 (pc := 89) (T := TX7) cal_X7_hitsFrom kw633 kw577 kw578 dX1_fireAt_89 (c_X7_hitsFrom (by assumption)) (by decide) (Nat.le_of_ble_eq_true rfl) (ci := 5) rfl (by assumption) ?_
                  rintro _ _ ⟨rfl, rfl⟩
                  refine R_istore7 (pc := 92) dX1_fireAt_92 rfl (by decide) ?_
                  refine R_aload5 (pc := 94) dX1_fireAt_94 ?_
                  refine R_iload7 (pc := 96) dX1_fireAt_96 ?_
                  refine R_callV1 (pc := 98) (T := TX7) cal_X7_suffer kw634 kw635 kw636 dX1_fireAt_98 (c_X7_suffer (by assumption)) (by decide) (Nat.le_of_ble_eq_true rfl) (ci := 5) rfl (by assumption) ?_
                  rintro _ h1 ⟨rfl, e1⟩
                  have q1 := gstep_s q0 e1 (by assumption) rfl
                  have hG1 := gAt q1
                  have go1 := hG1.o0
                  have gca1 := hG1.c0
                  have gcb1 := hG1.c1
                  have gi1 := hG1.is
                  have gs1 := hG1.sa
                  have gsh1_0 := hG1.sh kl2
                  have gsh1_1 := hG1.sh kl9
                  refine R_aload5 (pc := 101) dX1_fireAt_101 ?_
                  refine R_callV0 (pc := 103) (T := TX7) cal_X7_floats kw369 kw370 kw371 dX1_fireAt_103 (c_X7_floats (by assumption)) (by decide) (Nat.le_of_ble_eq_true rfl) (ci := 5) rfl (by assumption) ?_
                  rintro _ _ ⟨rfl, rfl⟩
                  refine R_ifb_ne (pc := 106) 115 dX1_fireAt_106 (by decide) (fun c_106 => ?_) (fun c_106 => ?_)
                  · skip
                    refine R_aload4 (pc := 115) dX1_fireAt_115 ?_
                    refine R_iload_n2 (pc := 117) dX1_fireAt_117 ?_
                    refine R_aload_n0 (pc := 118) dX1_fireAt_118 ?_
                    refine G_X1_40 (pc := 119) dX1_fireAt_119 (by assumption) ?_
                    refine R_callV2 (pc := 122) (T := TX7) cal_X7_noteShot kw639 kw640 kw641 dX1_fireAt_122 (c_X7_noteShot (by assumption)) (by decide) (Nat.le_of_ble_eq_true rfl) (ci := 5) rfl (by assumption) ?_
                    rintro _ h2 ⟨rfl, e2⟩
                    have q2 := gstep_s q1 e2 (by assumption) (k_note_0 _ _ _)
                    have hG2 := gAt q2
                    have go2 := hG2.o0
                    have gca2 := hG2.c0
                    have gcb2 := hG2.c1
                    have gi2 := hG2.is
                    have gs2 := hG2.sa
                    have gsh2_0 := hG2.sh kl2
                    have gsh2_1 := hG2.sh kl9
                    refine R_iload7 (pc := 125) dX1_fireAt_125 ?_
                    refine R_iret (pc := 127) rfl rfl dX1_fireAt_127 ?_
                    exact ⟨by simp (decide := true) only [k_fire, k_fsets, kz2, kz9, c_26, c_33, c_53, c_61, c_74, c_79, c_106, reduceCtorEq, if_true, if_false, reduceIte, and_true, true_and, and_false, false_and, and_self, or_true, true_or, or_false, false_or, or_self, not_true, not_false_iff]; try rfl, q2.trans (congrArg (gput _ g) (by simp (decide := true) only [k_fire, k_fsets, kz2, kz9, c_26, c_33, c_53, c_61, c_74, c_79, c_106, reduceCtorEq, if_true, if_false, reduceIte, and_true, true_and, and_false, false_and, and_self, or_true, true_or, or_false, false_or, or_self, not_true, not_false_iff]; try rfl))⟩
                  · skip
                    refine R_aload_n0 (pc := 109) dX1_fireAt_109 ?_
                    refine R_aload5 (pc := 110) dX1_fireAt_110 ?_
                    refine R_callV1 (pc := 112) (T := TX1) cal_X1_release kw296 kw298 kw2 dX1_fireAt_112 (c_X1_release (by assumption) (by assumption)) (by decide) (Nat.le_of_ble_eq_true rfl) (ci := 1) rfl (by assumption) ?_
                    rintro _ h3 ⟨rfl, e3⟩
                    have q3 := gstep_G q1 e3
                    have hG3 := gAt q3
                    have go3 := hG3.o0
                    have gca3 := hG3.c0
                    have gcb3 := hG3.c1
                    have gi3 := hG3.is
                    have gs3 := hG3.sa
                    have gsh3_0 := hG3.sh kl2
                    have gsh3_1 := hG3.sh kl9
                    refine R_aload4 (pc := 115) dX1_fireAt_115 ?_
                    refine R_iload_n2 (pc := 117) dX1_fireAt_117 ?_
                    refine R_aload_n0 (pc := 118) dX1_fireAt_118 ?_
                    refine G_X1_40 (pc := 119) dX1_fireAt_119 (by assumption) ?_
                    refine R_callV2 (pc := 122) (T := TX7) cal_X7_noteShot kw639 kw640 kw641 dX1_fireAt_122 (c_X7_noteShot (by assumption)) (by decide) (Nat.le_of_ble_eq_true rfl) (ci := 5) rfl (by assumption) ?_
                    rintro _ h4 ⟨rfl, e4⟩
                    have q4 := gstep_s q3 e4 (by assumption) (k_note_0 _ _ _)
                    have hG4 := gAt q4
                    have go4 := hG4.o0
                    have gca4 := hG4.c0
                    have gcb4 := hG4.c1
                    have gi4 := hG4.is
                    have gs4 := hG4.sa
                    have gsh4_0 := hG4.sh kl2
                    have gsh4_1 := hG4.sh kl9
                    refine R_iload7 (pc := 125) dX1_fireAt_125 ?_
                    refine R_iret (pc := 127) rfl rfl dX1_fireAt_127 ?_
                    exact ⟨by simp (decide := true) only [k_fire, k_fsets, kz2, kz9, c_26, c_33, c_53, c_61, c_74, c_79, c_106, reduceCtorEq, if_true, if_false, reduceIte, and_true, true_and, and_false, false_and, and_self, or_true, true_or, or_false, false_or, or_self, not_true, not_false_iff]; try rfl, q4.trans (congrArg (gput _ g) (by simp (decide := true) only [k_fire, k_fsets, kz2, kz9, c_26, c_33, c_53, c_61, c_74, c_79, c_106, reduceCtorEq, if_true, if_false, reduceIte, and_true, true_and, and_false, false_and, and_self, or_true, true_or, or_false, false_or, or_self, not_true, not_false_iff]; try rfl))⟩
                · skip
                  refine R_bipush (pc := 82) (v := (-2)) dX1_fireAt_82 (by decide) ?_
                  refine R_iret (pc := 84) rfl rfl dX1_fireAt_84 ?_
                  exact ⟨by simp (decide := true) only [k_fire, k_fsets, kz2, kz9, c_26, c_33, c_53, c_61, c_74, c_79, reduceCtorEq, if_true, if_false, reduceIte, and_true, true_and, and_false, false_and, and_self, or_true, true_or, or_false, false_or, or_self, not_true, not_false_iff]; try rfl, q0.trans (congrArg (gput _ g) (by simp (decide := true) only [k_fire, k_fsets, kz2, kz9, c_26, c_33, c_53, c_61, c_74, c_79, reduceCtorEq, if_true, if_false, reduceIte, and_true, true_and, and_false, false_and, and_self, or_true, true_or, or_false, false_or, or_self, not_true, not_false_iff]; try rfl))⟩
        · skip
          refine R_iconst (pc := 36) (v := (-1)) dX1_fireAt_36 (by decide) ?_
          refine R_iret (pc := 37) rfl rfl dX1_fireAt_37 ?_
          exact ⟨by simp (decide := true) only [k_fire, k_fsets, kz2, kz9, c_26, c_33, reduceCtorEq, if_true, if_false, reduceIte, and_true, true_and, and_false, false_and, and_self, or_true, true_or, or_false, false_or, or_self, not_true, not_false_iff]; try rfl, q0.trans (congrArg (gput _ g) (by simp (decide := true) only [k_fire, k_fsets, kz2, kz9, c_26, c_33, reduceCtorEq, if_true, if_false, reduceIte, and_true, true_and, and_false, false_and, and_self, or_true, true_or, or_false, false_or, or_self, not_true, not_false_iff]; try rfl))⟩

set_option maxHeartbeats 4000000 in
set_option maxRecDepth 100000 in
theorem c_X1_mend (hG : GmAt h g G) {a w : Int32} : Spec l D cA N0 m_X1_mend 2 0 0 [.ref g, .int a, .int w] h (fun r h' => r = some (.int (k_mend G a w).1) ∧ h' = gput h g (k_mend G a w).2) := by
  refine Spec.of (L := [some (.ref g), some (.int a), some (.int w), none, none, none]) (by decide) rfl (Nat.le_of_ble_eq_true rfl) ?_
  have go := hG.o0
  have gc0 := hG.c0
  have gc1 := hG.c1
  have gi := hG.is
  have gs := hG.sa
  have q0 := (gput_self hG).symm
  refine R_aload_n0 (pc := 0) dX1_mend_0 ?_
  refine R_iload_n1 (pc := 1) dX1_mend_1 ?_
  refine R_callV1 (pc := 2) (T := TX1) cal_X1_known kw281 kw282 kw283 dX1_mend_2 (c_X1_known (by assumption)) (by decide) (Nat.le_of_ble_eq_true rfl) (ci := 1) rfl (by assumption) ?_
  rintro _ _ ⟨⟨z2, hz2, rfl⟩, rfl⟩
  rcases k_known_cases _ _ with ⟨kv2, kz2⟩ | ⟨k2, kl2, kx2, kv2, kz2⟩ <;> (rw [kz2] at hz2; subst hz2)
  · skip
    refine R_astoreN_n3 (pc := 5) dX1_mend_5 rfl (by decide) ?_
    refine R_aloadN_n3 (pc := 6) dX1_mend_6 ?_
    refine R_ifnullN (pc := 7) 19 dX1_mend_7 (by decide) ?_
    refine R_iconst (pc := 19) (v := (-1)) dX1_mend_19 (by decide) ?_
    refine R_iret (pc := 20) rfl rfl dX1_mend_20 ?_
    exact ⟨by simp (decide := true) only [k_mend, k_mamt, k_msets, k_madd, sK, kz2, reduceCtorEq, if_true, if_false, reduceIte, and_true, true_and, and_false, false_and, and_self, or_true, true_or, or_false, false_or, or_self, not_true, not_false_iff]; try rfl, q0.trans (congrArg (gput _ g) (by simp (decide := true) only [k_mend, k_mamt, k_msets, k_madd, sK, kz2, reduceCtorEq, if_true, if_false, reduceIte, and_true, true_and, and_false, false_and, and_self, or_true, true_or, or_false, false_or, or_self, not_true, not_false_iff]; try rfl))⟩
  · skip
    have kg2 := hG.sh kl2
    refine R_astore_n3 (pc := 5) dX1_mend_5 rfl (by decide) ?_
    refine R_aload_n3 (pc := 6) dX1_mend_6 ?_
    refine R_ifnull (pc := 7) dX1_mend_7 ?_
    refine R_iload_n2 (pc := 10) dX1_mend_10 ?_
    refine R_if_lt (pc := 11) 19 dX1_mend_11 (by decide) (fun c_11 => ?_) (fun c_11 => ?_)
    · skip
      have d_11 := Int32.not_le.mpr c_11
      refine R_iconst (pc := 19) (v := (-1)) dX1_mend_19 (by decide) ?_
      refine R_iret (pc := 20) rfl rfl dX1_mend_20 ?_
      exact ⟨by simp (decide := true) only [k_mend, k_mamt, k_msets, k_madd, sK, kz2, c_11, d_11, reduceCtorEq, if_true, if_false, reduceIte, and_true, true_and, and_false, false_and, and_self, or_true, true_or, or_false, false_or, or_self, not_true, not_false_iff]; try rfl, q0.trans (congrArg (gput _ g) (by simp (decide := true) only [k_mend, k_mamt, k_msets, k_madd, sK, kz2, c_11, d_11, reduceCtorEq, if_true, if_false, reduceIte, and_true, true_and, and_false, false_and, and_self, or_true, true_or, or_false, false_or, or_self, not_true, not_false_iff]; try rfl))⟩
    · skip
      have d_11 := Int32.not_lt.mp c_11
      refine R_iload_n2 (pc := 14) dX1_mend_14 ?_
      refine R_iconst (pc := 15) (v := 2) dX1_mend_15 (by decide) ?_
      refine R_icmp_le (pc := 16) 21 dX1_mend_16 (by decide) (fun c_16 => ?_) (fun c_16 => ?_)
      · skip
        have d_16 := Int32.not_lt.mpr c_16
        refine R_aload_n0 (pc := 21) dX1_mend_21 ?_
        refine G_X1_43 (pc := 22) dX1_mend_22 (by assumption) ?_
        refine R_if_eq (pc := 25) 49 dX1_mend_25 (by decide) (fun c_25 => ?_) (fun c_25 => ?_)
        · skip
          refine R_bipush (pc := 49) (v := (-2)) dX1_mend_49 (by decide) ?_
          refine R_iret (pc := 51) rfl rfl dX1_mend_51 ?_
          exact ⟨by simp (decide := true) only [k_mend, k_mamt, k_msets, k_madd, sK, kz2, c_11, d_11, c_16, d_16, c_25, reduceCtorEq, if_true, if_false, reduceIte, and_true, true_and, and_false, false_and, and_self, or_true, true_or, or_false, false_or, or_self, not_true, not_false_iff]; try rfl, q0.trans (congrArg (gput _ g) (by simp (decide := true) only [k_mend, k_mamt, k_msets, k_madd, sK, kz2, c_11, d_11, c_16, d_16, c_25, reduceCtorEq, if_true, if_false, reduceIte, and_true, true_and, and_false, false_and, and_self, or_true, true_or, or_false, false_or, or_self, not_true, not_false_iff]; try rfl))⟩
        · skip
          refine R_aload_n3 (pc := 28) dX1_mend_28 ?_
          refine R_callV0 (pc := 29) (T := TX7) cal_X7_floats kw369 kw370 kw371 dX1_mend_29 (c_X7_floats (by assumption)) (by decide) (Nat.le_of_ble_eq_true rfl) (ci := 5) rfl (by assumption) ?_
          rintro _ _ ⟨rfl, rfl⟩
          refine R_ifb_eq (pc := 32) 49 dX1_mend_32 (by decide) (fun c_32 => ?_) (fun c_32 => ?_)
          · skip
            refine R_bipush (pc := 49) (v := (-2)) dX1_mend_49 (by decide) ?_
            refine R_iret (pc := 51) rfl rfl dX1_mend_51 ?_
            exact ⟨by simp (decide := true) only [k_mend, k_mamt, k_msets, k_madd, sK, kz2, c_11, d_11, c_16, d_16, c_25, c_32, reduceCtorEq, if_true, if_false, reduceIte, and_true, true_and, and_false, false_and, and_self, or_true, true_or, or_false, false_or, or_self, not_true, not_false_iff]; try rfl, q0.trans (congrArg (gput _ g) (by simp (decide := true) only [k_mend, k_mamt, k_msets, k_madd, sK, kz2, c_11, d_11, c_16, d_16, c_25, c_32, reduceCtorEq, if_true, if_false, reduceIte, and_true, true_and, and_false, false_and, and_self, or_true, true_or, or_false, false_or, or_self, not_true, not_false_iff]; try rfl))⟩
          · skip
            refine R_aload_n3 (pc := 35) dX1_mend_35 ?_
            refine R_callV0 (pc := 36) (T := TX7) cal_X7_isGrappled kw651 kw459 kw460 dX1_mend_36 (c_X7_isGrappled (by assumption)) (by decide) (Nat.le_of_ble_eq_true rfl) (ci := 5) rfl (by assumption) ?_
            rintro _ _ ⟨rfl, rfl⟩
            refine R_ifb_ne (pc := 39) 49 dX1_mend_39 (by decide) (fun c_39 => ?_) (fun c_39 => ?_)
            · skip
              refine R_bipush (pc := 49) (v := (-2)) dX1_mend_49 (by decide) ?_
              refine R_iret (pc := 51) rfl rfl dX1_mend_51 ?_
              exact ⟨by simp (decide := true) only [k_mend, k_mamt, k_msets, k_madd, sK, kz2, c_11, d_11, c_16, d_16, c_25, c_32, c_39, reduceCtorEq, if_true, if_false, reduceIte, and_true, true_and, and_false, false_and, and_self, or_true, true_or, or_false, false_or, or_self, not_true, not_false_iff]; try rfl, q0.trans (congrArg (gput _ g) (by simp (decide := true) only [k_mend, k_mamt, k_msets, k_madd, sK, kz2, c_11, d_11, c_16, d_16, c_25, c_32, c_39, reduceCtorEq, if_true, if_false, reduceIte, and_true, true_and, and_false, false_and, and_self, or_true, true_or, or_false, false_or, or_self, not_true, not_false_iff]; try rfl))⟩
            · skip
              refine R_aload_n3 (pc := 42) dX1_mend_42 ?_
              refine G_X1_186 (pc := 43) dX1_mend_43 (by assumption) ?_
              refine R_if_eq (pc := 46) 52 dX1_mend_46 (by decide) (fun c_46 => ?_) (fun c_46 => ?_)
              · skip
                refine R_aload_n0 (pc := 52) dX1_mend_52 ?_
                refine R_aload_n3 (pc := 53) dX1_mend_53 ?_
                refine G_X1_105 (pc := 54) dX1_mend_54 (by assumption) ?_
                refine R_callV1 (pc := 57) (T := TX1) cal_X1_captainOf kw482 kw484 kw11 dX1_mend_57 (c_X1_captainOf (by assumption)) (by decide) (Nat.le_of_ble_eq_true rfl) (ci := 1) rfl (by assumption) ?_
                rintro _ _ ⟨rfl, rfl⟩
                have gcp := hG.cp (shF G k2 1)
                refine R_astore4 (pc := 60) dX1_mend_60 rfl (by decide) ?_
                refine R_aload_n3 (pc := 62) dX1_mend_62 ?_
                refine R_iload_n2 (pc := 63) dX1_mend_63 ?_
                refine R_aload4 (pc := 64) dX1_mend_64 ?_
                refine G_X1_127 (pc := 66) dX1_mend_66 (by assumption) ?_
                refine R_callS3 (pc := 69) cal_X1_mendable kw672 kw673 dX1_mend_69 (c_X1_mendable (by assumption)) (by decide) (Nat.le_of_ble_eq_true rfl) ?_
                rintro _ _ ⟨rfl, rfl⟩
                refine R_istore5 (pc := 72) dX1_mend_72 rfl (by decide) ?_
                refine R_iload5 (pc := 74) dX1_mend_74 ?_
                refine R_if_gt (pc := 76) 82 dX1_mend_76 (by decide) (fun c_76 => ?_) (fun c_76 => ?_)
                · skip
                  have d_76 := Int32.not_le.mpr c_76
                  refine R_iload_n2 (pc := 82) dX1_mend_82 ?_
                  refine R_if_ne (pc := 83) 100 dX1_mend_83 (by decide) (fun c_83 => ?_) (fun c_83 => ?_)
                  · skip
                    refine R_iload_n2 (pc := 100) dX1_mend_100 ?_
                    refine R_iconst (pc := 101) (v := 1) dX1_mend_101 (by decide) ?_
                    refine R_icmp_ne (pc := 102) 119 dX1_mend_102 (by decide) (fun c_102 => ?_) (fun c_102 => ?_)
                    · skip
                      refine R_aload_n3 (pc := 119) dX1_mend_119 ?_
                      refine R_dup (pc := 120) dX1_mend_120 rfl ?_
                      refine G_X1_120 (pc := 121) dX1_mend_121 (by assumption) ?_
                      refine R_iload5 (pc := 124) dX1_mend_124 ?_
                      refine R_iadd (pc := 126) dX1_mend_126 ?_
                      refine P_X1_120 (pc := 127) dX1_mend_127 (by assumption) (fun h1 e1 f1 => ?_)
                      have q1 := gstep_s q0 e1 (by assumption) rfl
                      have hG1 := gAt q1
                      have go1 := hG1.o0
                      have gca1 := hG1.c0
                      have gcb1 := hG1.c1
                      have gi1 := hG1.is
                      have gs1 := hG1.sa
                      have gsh1_0 := hG1.sh kl2
                      have gcp1_0 := hG1.cp (shF G k2 1)
                      refine R_aload4 (pc := 130) dX1_mend_130 ?_
                      refine R_dup (pc := 132) dX1_mend_132 rfl ?_
                      refine G_X1_127 (pc := 133) dX1_mend_133 (by assumption) ?_
                      refine R_iload5 (pc := 136) dX1_mend_136 ?_
                      refine R_iload_n2 (pc := 138) dX1_mend_138 ?_
                      refine R_iconst (pc := 139) (v := 1) dX1_mend_139 (by decide) ?_
                      refine R_iadd (pc := 140) dX1_mend_140 ?_
                      refine R_imul (pc := 141) dX1_mend_141 ?_
                      refine R_isub (pc := 142) dX1_mend_142 ?_
                      refine P_X1_127 (pc := 143) dX1_mend_143 (by assumption) (fun h2 e2 f2 => ?_)
                      have q2 := gstep_c q1 e2
                      have hG2 := gAt q2
                      have go2 := hG2.o0
                      have gca2 := hG2.c0
                      have gcb2 := hG2.c1
                      have gi2 := hG2.is
                      have gs2 := hG2.sa
                      have gsh2_0 := hG2.sh kl2
                      have gcp2_0 := hG2.cp (shF G k2 1)
                      refine R_aload_n3 (pc := 146) dX1_mend_146 ?_
                      refine R_dup (pc := 147) dX1_mend_147 rfl ?_
                      refine G_X1_186 (pc := 148) dX1_mend_148 (by assumption) ?_
                      refine R_iconst (pc := 151) (v := 4) dX1_mend_151 (by decide) ?_
                      refine R_ior (pc := 152) dX1_mend_152 ?_
                      refine P_X1_186 (pc := 153) dX1_mend_153 (by assumption) (fun h3 e3 f3 => ?_)
                      have q3 := gstep_s q2 e3 (by assumption) rfl
                      have hG3 := gAt q3
                      have go3 := hG3.o0
                      have gca3 := hG3.c0
                      have gcb3 := hG3.c1
                      have gi3 := hG3.is
                      have gs3 := hG3.sa
                      have gsh3_0 := hG3.sh kl2
                      have gcp3_0 := hG3.cp (shF G k2 1)
                      refine R_iload5 (pc := 156) dX1_mend_156 ?_
                      refine R_iret (pc := 158) rfl rfl dX1_mend_158 ?_
                      exact ⟨by simp (decide := true) only [k_mend, k_mamt, k_msets, k_madd, sK, kz2, c_11, d_11, c_16, d_16, c_25, c_32, c_39, c_46, c_76, d_76, c_83, c_102, reduceCtorEq, if_true, if_false, reduceIte, and_true, true_and, and_false, false_and, and_self, or_true, true_or, or_false, false_or, or_self, not_true, not_false_iff]; try rfl, q3.trans (congrArg (gput _ g) (by simp (decide := true) only [k_mend, k_mamt, k_msets, k_madd, sK, kz2, c_11, d_11, c_16, d_16, c_25, c_32, c_39, c_46, c_76, d_76, c_83, c_102, reduceCtorEq, if_true, if_false, reduceIte, and_true, true_and, and_false, false_and, and_self, or_true, true_or, or_false, false_or, or_self, not_true, not_false_iff]; try rfl))⟩
                    · skip
                      subst c_102
                      have c_102 : True := trivial
                      refine R_aload_n3 (pc := 105) dX1_mend_105 ?_
                      refine R_dup (pc := 106) dX1_mend_106 rfl ?_
                      refine G_X1_114 (pc := 107) dX1_mend_107 (by assumption) ?_
                      refine R_iload5 (pc := 110) dX1_mend_110 ?_
                      refine R_iadd (pc := 112) dX1_mend_112 ?_
                      refine P_X1_114 (pc := 113) dX1_mend_113 (by assumption) (fun h4 e4 f4 => ?_)
                      have q4 := gstep_s q0 e4 (by assumption) rfl
                      have hG4 := gAt q4
                      have go4 := hG4.o0
                      have gca4 := hG4.c0
                      have gcb4 := hG4.c1
                      have gi4 := hG4.is
                      have gs4 := hG4.sa
                      have gsh4_0 := hG4.sh kl2
                      have gcp4_0 := hG4.cp (shF G k2 1)
                      refine R_goto (pc := 116) 130 dX1_mend_116 (by decide) ?_
                      refine R_aload4 (pc := 130) dX1_mend_130 ?_
                      refine R_dup (pc := 132) dX1_mend_132 rfl ?_
                      refine G_X1_127 (pc := 133) dX1_mend_133 (by assumption) ?_
                      refine R_iload5 (pc := 136) dX1_mend_136 ?_
                      refine R_iload_n2 (pc := 138) dX1_mend_138 ?_
                      refine R_iconst (pc := 139) (v := 1) dX1_mend_139 (by decide) ?_
                      refine R_iadd (pc := 140) dX1_mend_140 ?_
                      refine R_imul (pc := 141) dX1_mend_141 ?_
                      refine R_isub (pc := 142) dX1_mend_142 ?_
                      refine P_X1_127 (pc := 143) dX1_mend_143 (by assumption) (fun h5 e5 f5 => ?_)
                      have q5 := gstep_c q4 e5
                      have hG5 := gAt q5
                      have go5 := hG5.o0
                      have gca5 := hG5.c0
                      have gcb5 := hG5.c1
                      have gi5 := hG5.is
                      have gs5 := hG5.sa
                      have gsh5_0 := hG5.sh kl2
                      have gcp5_0 := hG5.cp (shF G k2 1)
                      refine R_aload_n3 (pc := 146) dX1_mend_146 ?_
                      refine R_dup (pc := 147) dX1_mend_147 rfl ?_
                      refine G_X1_186 (pc := 148) dX1_mend_148 (by assumption) ?_
                      refine R_iconst (pc := 151) (v := 4) dX1_mend_151 (by decide) ?_
                      refine R_ior (pc := 152) dX1_mend_152 ?_
                      refine P_X1_186 (pc := 153) dX1_mend_153 (by assumption) (fun h6 e6 f6 => ?_)
                      have q6 := gstep_s q5 e6 (by assumption) rfl
                      have hG6 := gAt q6
                      have go6 := hG6.o0
                      have gca6 := hG6.c0
                      have gcb6 := hG6.c1
                      have gi6 := hG6.is
                      have gs6 := hG6.sa
                      have gsh6_0 := hG6.sh kl2
                      have gcp6_0 := hG6.cp (shF G k2 1)
                      refine R_iload5 (pc := 156) dX1_mend_156 ?_
                      refine R_iret (pc := 158) rfl rfl dX1_mend_158 ?_
                      exact ⟨by simp (decide := true) only [k_mend, k_mamt, k_msets, k_madd, sK, kz2, c_11, d_11, c_16, d_16, c_25, c_32, c_39, c_46, c_76, d_76, c_83, c_102, reduceCtorEq, if_true, if_false, reduceIte, and_true, true_and, and_false, false_and, and_self, or_true, true_or, or_false, false_or, or_self, not_true, not_false_iff]; try rfl, q6.trans (congrArg (gput _ g) (by simp (decide := true) only [k_mend, k_mamt, k_msets, k_madd, sK, kz2, c_11, d_11, c_16, d_16, c_25, c_32, c_39, c_46, c_76, d_76, c_83, c_102, reduceCtorEq, if_true, if_false, reduceIte, and_true, true_and, and_false, false_and, and_self, or_true, true_or, or_false, false_or, or_self, not_true, not_false_iff]; try rfl))⟩
                  · skip
                    subst c_83
                    have c_83 : True := trivial
                    refine R_aload_n3 (pc := 86) dX1_mend_86 ?_
                    refine R_dup (pc := 87) dX1_mend_87 rfl ?_
                    refine G_X1_111 (pc := 88) dX1_mend_88 (by assumption) ?_
                    refine R_iload5 (pc := 91) dX1_mend_91 ?_
                    refine R_iadd (pc := 93) dX1_mend_93 ?_
                    refine P_X1_111 (pc := 94) dX1_mend_94 (by assumption) (fun h7 e7 f7 => ?_)
                    have q7 := gstep_s q0 e7 (by assumption) rfl
                    have hG7 := gAt q7
                    have go7 := hG7.o0
                    have gca7 := hG7.c0
                    have gcb7 := hG7.c1
                    have gi7 := hG7.is
                    have gs7 := hG7.sa
                    have gsh7_0 := hG7.sh kl2
                    have gcp7_0 := hG7.cp (shF G k2 1)
                    refine R_goto (pc := 97) 130 dX1_mend_97 (by decide) ?_
                    refine R_aload4 (pc := 130) dX1_mend_130 ?_
                    refine R_dup (pc := 132) dX1_mend_132 rfl ?_
                    refine G_X1_127 (pc := 133) dX1_mend_133 (by assumption) ?_
                    refine R_iload5 (pc := 136) dX1_mend_136 ?_
                    refine R_iload_n2 (pc := 138) dX1_mend_138 ?_
                    refine R_iconst (pc := 139) (v := 1) dX1_mend_139 (by decide) ?_
                    refine R_iadd (pc := 140) dX1_mend_140 ?_
                    refine R_imul (pc := 141) dX1_mend_141 ?_
                    refine R_isub (pc := 142) dX1_mend_142 ?_
                    refine P_X1_127 (pc := 143) dX1_mend_143 (by assumption) (fun h8 e8 f8 => ?_)
                    have q8 := gstep_c q7 e8
                    have hG8 := gAt q8
                    have go8 := hG8.o0
                    have gca8 := hG8.c0
                    have gcb8 := hG8.c1
                    have gi8 := hG8.is
                    have gs8 := hG8.sa
                    have gsh8_0 := hG8.sh kl2
                    have gcp8_0 := hG8.cp (shF G k2 1)
                    refine R_aload_n3 (pc := 146) dX1_mend_146 ?_
                    refine R_dup (pc := 147) dX1_mend_147 rfl ?_
                    refine G_X1_186 (pc := 148) dX1_mend_148 (by assumption) ?_
                    refine R_iconst (pc := 151) (v := 4) dX1_mend_151 (by decide) ?_
                    refine R_ior (pc := 152) dX1_mend_152 ?_
                    refine P_X1_186 (pc := 153) dX1_mend_153 (by assumption) (fun h9 e9 f9 => ?_)
                    have q9 := gstep_s q8 e9 (by assumption) rfl
                    have hG9 := gAt q9
                    have go9 := hG9.o0
                    have gca9 := hG9.c0
                    have gcb9 := hG9.c1
                    have gi9 := hG9.is
                    have gs9 := hG9.sa
                    have gsh9_0 := hG9.sh kl2
                    have gcp9_0 := hG9.cp (shF G k2 1)
                    refine R_iload5 (pc := 156) dX1_mend_156 ?_
                    refine R_iret (pc := 158) rfl rfl dX1_mend_158 ?_
                    exact ⟨by simp (decide := true) only [k_mend, k_mamt, k_msets, k_madd, sK, kz2, c_11, d_11, c_16, d_16, c_25, c_32, c_39, c_46, c_76, d_76, c_83, reduceCtorEq, if_true, if_false, reduceIte, and_true, true_and, and_false, false_and, and_self, or_true, true_or, or_false, false_or, or_self, not_true, not_false_iff]; try rfl, q9.trans (congrArg (gput _ g) (by simp (decide := true) only [k_mend, k_mamt, k_msets, k_madd, sK, kz2, c_11, d_11, c_16, d_16, c_25, c_32, c_39, c_46, c_76, d_76, c_83, reduceCtorEq, if_true, if_false, reduceIte, and_true, true_and, and_false, false_and, and_self, or_true, true_or, or_false, false_or, or_self, not_true, not_false_iff]; try rfl))⟩
                · skip
                  have d_76 := Int32.not_lt.mp c_76
                  refine R_bipush (pc := 79) (v := (-2)) dX1_mend_79 (by decide) ?_
                  refine R_iret (pc := 81) rfl rfl dX1_mend_81 ?_
                  exact ⟨by simp (decide := true) only [k_mend, k_mamt, k_msets, k_madd, sK, kz2, c_11, d_11, c_16, d_16, c_25, c_32, c_39, c_46, c_76, d_76, reduceCtorEq, if_true, if_false, reduceIte, and_true, true_and, and_false, false_and, and_self, or_true, true_or, or_false, false_or, or_self, not_true, not_false_iff]; try rfl, q0.trans (congrArg (gput _ g) (by simp (decide := true) only [k_mend, k_mamt, k_msets, k_madd, sK, kz2, c_11, d_11, c_16, d_16, c_25, c_32, c_39, c_46, c_76, d_76, reduceCtorEq, if_true, if_false, reduceIte, and_true, true_and, and_false, false_and, and_self, or_true, true_or, or_false, false_or, or_self, not_true, not_false_iff]; try rfl))⟩
              · skip
                refine R_bipush (pc := 49) (v := (-2)) dX1_mend_49 (by decide) ?_
                refine R_iret (pc := 51) rfl rfl dX1_mend_51 ?_
                exact ⟨by simp (decide := true) only [k_mend, k_mamt, k_msets, k_madd, sK, kz2, c_11, d_11, c_16, d_16, c_25, c_32, c_39, c_46, reduceCtorEq, if_true, if_false, reduceIte, and_true, true_and, and_false, false_and, and_self, or_true, true_or, or_false, false_or, or_self, not_true, not_false_iff]; try rfl, q0.trans (congrArg (gput _ g) (by simp (decide := true) only [k_mend, k_mamt, k_msets, k_madd, sK, kz2, c_11, d_11, c_16, d_16, c_25, c_32, c_39, c_46, reduceCtorEq, if_true, if_false, reduceIte, and_true, true_and, and_false, false_and, and_self, or_true, true_or, or_false, false_or, or_self, not_true, not_false_iff]; try rfl))⟩
      · skip
        have d_16 := Int32.not_le.mp c_16
        refine R_iconst (pc := 19) (v := (-1)) dX1_mend_19 (by decide) ?_
        refine R_iret (pc := 20) rfl rfl dX1_mend_20 ?_
        exact ⟨by simp (decide := true) only [k_mend, k_mamt, k_msets, k_madd, sK, kz2, c_11, d_11, c_16, d_16, reduceCtorEq, if_true, if_false, reduceIte, and_true, true_and, and_false, false_and, and_self, or_true, true_or, or_false, false_or, or_self, not_true, not_false_iff]; try rfl, q0.trans (congrArg (gput _ g) (by simp (decide := true) only [k_mend, k_mamt, k_msets, k_madd, sK, kz2, c_11, d_11, c_16, d_16, reduceCtorEq, if_true, if_false, reduceIte, and_true, true_and, and_false, false_and, and_self, or_true, true_or, or_false, false_or, or_self, not_true, not_false_iff]; try rfl))⟩

def pu (n : Nat) : Nat := if n = 0 then 0 else 10 ^ (n - 1)
theorem pu_s (n : Nat) : 10 ^ n / 10 = pu n := by
  cases n with
  | zero => rfl
  | succ n => rw [Nat.pow_succ, Nat.mul_div_cancel _ (by decide)]; simp [pu]
theorem p6 {n : Nat} (h : n < 6) : 10 ^ n < 2 ^ 31 ∧ 0 < 10 ^ n := by
  rcases (by omega : n = 0 ∨ n = 1 ∨ n = 2 ∨ n = 3 ∨ n = 4 ∨ n = 5) with e | e | e | e | e | e <;> subst e <;> decide
set_option maxHeartbeats 4000000 in
set_option maxRecDepth 100000 in
theorem L_X1_sailAlong (hG : GmAt h g G) {u p : Nat} (hu : u < 8) (hp : p < 2 ^ 31) {fa : Int32} : ∀ (n : Nat), n ≤ 6 → ∀ (x d : Int32), RunM l D cA N0 m_X1_sailAlong 4 0 0 (fun r h' => r = some (.int (k_sfin G u (k_go G u p n x d)).1) ∧ h' = gput h g (k_sfin G u (k_go G u p n x d)).2) h 0 0 74 [some (.ref g), some (.int fa), some (.int (nI p)), some (.ref (sad g u)), some (.int x), some (.int d), some (.int (nI (pu n))), none] [] := by
  intro n
  induction n with
  | zero =>
    intro hn x d
    have go := hG.o0
    have gc0 := hG.c0
    have gc1 := hG.c1
    have gi := hG.is
    have gs := hG.sa
    have gsu := hG.sh hu
    have q0 := (gput_self hG).symm
    refine R_iload6 (pc := 74) dX1_sailAlong_74 ?_
    refine R_if_le (pc := 76) 139 dX1_sailAlong_76 (by decide) (fun c_76 => ?_) (fun c_76 => absurd (by decide) c_76)
    refine R_aload_n3 (pc := 139) dX1_sailAlong_139 ?_
    refine R_iload4 (pc := 140) dX1_sailAlong_140 ?_
    refine P_X1_73 (pc := 142) dX1_sailAlong_142 (by assumption) (fun h1 e1 f1 => ?_)
    have q1 := gstep_s q0 e1 (by assumption) rfl
    have hG1 := gAt q1
    have go1 := hG1.o0
    have gca1 := hG1.c0
    have gcb1 := hG1.c1
    have gi1 := hG1.is
    have gs1 := hG1.sa
    have gsh1_0 := hG1.sh hu
    refine R_aload_n3 (pc := 145) dX1_sailAlong_145 ?_
    refine R_iload5 (pc := 146) dX1_sailAlong_146 ?_
    refine P_X1_108 (pc := 148) dX1_sailAlong_148 (by assumption) (fun h2 e2 f2 => ?_)
    have q2 := gstep_s q1 e2 (by assumption) rfl
    have hG2 := gAt q2
    have go2 := hG2.o0
    have gca2 := hG2.c0
    have gcb2 := hG2.c1
    have gi2 := hG2.is
    have gs2 := hG2.sa
    have gsh2_0 := hG2.sh hu
    refine R_aload_n3 (pc := 151) dX1_sailAlong_151 ?_
    refine R_dup (pc := 152) dX1_sailAlong_152 rfl ?_
    refine G_X1_186 (pc := 153) dX1_sailAlong_153 (by assumption) ?_
    refine R_iconst (pc := 156) (v := 1) dX1_sailAlong_156 (by decide) ?_
    refine R_ior (pc := 157) dX1_sailAlong_157 ?_
    refine P_X1_186 (pc := 158) dX1_sailAlong_158 (by assumption) (fun h3 e3 f3 => ?_)
    have q3 := gstep_s q2 e3 (by assumption) rfl
    have hG3 := gAt q3
    have go3 := hG3.o0
    have gca3 := hG3.c0
    have gcb3 := hG3.c1
    have gi3 := hG3.is
    have gs3 := hG3.sa
    have gsh3_0 := hG3.sh hu
    refine R_iload4 (pc := 161) dX1_sailAlong_161 ?_
    refine R_iret (pc := 163) rfl rfl dX1_sailAlong_163 ?_
    exact ⟨rfl, q3⟩
  | succ n ih =>
    intro hn x d
    rw [show pu (n + 1) = 10 ^ n by simp [pu]]
    have go := hG.o0
    have gc0 := hG.c0
    have gc1 := hG.c1
    have gi := hG.is
    have gs := hG.sa
    have gsu := hG.sh hu
    have q0 := (gput_self hG).symm
    refine R_iload6 (pc := 74) dX1_sailAlong_74 ?_
    refine R_if_le (pc := 76) 139 dX1_sailAlong_76 (by decide) (fun c_76 => absurd c_76 (nI_nle (p6 (show n < 6 by omega)).2 (p6 (show n < 6 by omega)).1)) (fun c_76 => ?_)
    refine R_iload_n2 (pc := 79) dX1_sailAlong_79 ?_
    refine R_iload6 (pc := 80) dX1_sailAlong_80 ?_
    refine R_idiv (pc := 82) dX1_sailAlong_82 (nI_ne0 (p6 (show n < 6 by omega)).2 (p6 (show n < 6 by omega)).1) ?_
    refine R_bipush (pc := 83) (v := 10) dX1_sailAlong_83 (by decide) ?_
    refine R_irem (pc := 85) dX1_sailAlong_85 (by decide) ?_
    rw [pk_div hp (p6 (show n < 6 by omega)).2 (p6 (show n < 6 by omega)).1, nI_r10 (Nat.lt_of_le_of_lt (Nat.div_le_self _ _) hp)]
    refine R_istore7 (pc := 86) dX1_sailAlong_86 rfl (by decide) ?_
    refine R_iload5 (pc := 88) dX1_sailAlong_88 ?_
    refine R_iload7 (pc := 90) dX1_sailAlong_90 ?_
    refine R_callS2 (pc := 92) cal_X5_turned kw618 kw550 dX1_sailAlong_92 c_X5_turned (by decide) (Nat.le_of_ble_eq_true rfl) ?_
    rintro _ _ ⟨rfl, rfl⟩
    refine R_istore5 (pc := 95) dX1_sailAlong_95 rfl (by decide) ?_
    refine R_iload7 (pc := 97) dX1_sailAlong_97 ?_
    refine R_iconst (pc := 99) (v := 1) dX1_sailAlong_99 (by decide) ?_
    refine R_icmp_ne (pc := 100) 115 dX1_sailAlong_100 (by decide) (fun c_100 => ?_) (fun c_100 => ?_)
    · skip
      refine R_iload4 (pc := 115) dX1_sailAlong_115 ?_
      refine R_istore4 (pc := 117) dX1_sailAlong_117 rfl (by decide) ?_
      refine R_iload4 (pc := 119) dX1_sailAlong_119 ?_
      refine R_bipush (pc := 121) (v := (-9)) dX1_sailAlong_121 (by decide) ?_
      refine R_icmp_ne (pc := 123) 129 dX1_sailAlong_123 (by decide) (fun c_123 => ?_) (fun c_123 => ?_)
      · skip
        refine R_iload6 (pc := 129) dX1_sailAlong_129 ?_
        refine R_bipush (pc := 131) (v := 10) dX1_sailAlong_131 (by decide) ?_
        refine R_idiv (pc := 133) dX1_sailAlong_133 (by decide) ?_
        refine R_istore6 (pc := 134) dX1_sailAlong_134 rfl (by decide) ?_
        refine R_goto (pc := 136) 74 dX1_sailAlong_136 (by decide) ?_
        rw [show (10 : Int32) = nI 10 from rfl, pk_div (p6 (show n < 6 by omega)).1 (by decide) (by decide), pu_s]
        refine R_weak (by repeat (first | exact trivial | refine ⟨rfl, ?_⟩ | refine ⟨trivial, ?_⟩)) (R_post (fun a h1 q1 => ?_) (ih (by omega) _ _))
        rw [k_go_s, if_neg c_100, if_neg c_123]
        exact q1
      · skip
        refine R_bipush (pc := 126) (v := (-2)) dX1_sailAlong_126 (by decide) ?_
        refine R_iret (pc := 128) rfl rfl dX1_sailAlong_128 ?_
        exact ⟨by rw [k_go_s, if_neg c_100, if_pos c_123]; rfl, by rw [k_go_s, if_neg c_100, if_pos c_123]; exact q0⟩
    · skip
      refine R_aload_n0 (pc := 103) dX1_sailAlong_103 ?_
      refine R_aload_n3 (pc := 104) dX1_sailAlong_104 ?_
      refine R_iload4 (pc := 105) dX1_sailAlong_105 ?_
      refine R_iload5 (pc := 107) dX1_sailAlong_107 ?_
      refine R_callV3 (pc := 109) (T := TX1) cal_X1_hexAhead kw619 kw546 kw547 dX1_sailAlong_109 (c_X1_hexAhead (by assumption) (by assumption)) (by decide) (Nat.le_of_ble_eq_true rfl) (ci := 1) rfl (by assumption) ?_
      rintro _ _ ⟨rfl, rfl⟩
      refine R_goto (pc := 112) 117 dX1_sailAlong_112 (by decide) ?_
      refine R_istore4 (pc := 117) dX1_sailAlong_117 rfl (by decide) ?_
      refine R_iload4 (pc := 119) dX1_sailAlong_119 ?_
      refine R_bipush (pc := 121) (v := (-9)) dX1_sailAlong_121 (by decide) ?_
      refine R_icmp_ne (pc := 123) 129 dX1_sailAlong_123 (by decide) (fun c_123 => ?_) (fun c_123 => ?_)
      · skip
        refine R_iload6 (pc := 129) dX1_sailAlong_129 ?_
        refine R_bipush (pc := 131) (v := 10) dX1_sailAlong_131 (by decide) ?_
        refine R_idiv (pc := 133) dX1_sailAlong_133 (by decide) ?_
        refine R_istore6 (pc := 134) dX1_sailAlong_134 rfl (by decide) ?_
        refine R_goto (pc := 136) 74 dX1_sailAlong_136 (by decide) ?_
        rw [show (10 : Int32) = nI 10 from rfl, pk_div (p6 (show n < 6 by omega)).1 (by decide) (by decide), pu_s]
        refine R_weak (by repeat (first | exact trivial | refine ⟨rfl, ?_⟩ | refine ⟨trivial, ?_⟩)) (R_post (fun a h1 q1 => ?_) (ih (by omega) _ _))
        rw [k_go_s, if_pos c_100, if_neg c_123]
        exact q1
      · skip
        refine R_bipush (pc := 126) (v := (-2)) dX1_sailAlong_126 (by decide) ?_
        refine R_iret (pc := 128) rfl rfl dX1_sailAlong_128 ?_
        exact ⟨by rw [k_go_s, if_pos c_100, if_pos c_123]; rfl, by rw [k_go_s, if_pos c_100, if_pos c_123]; exact q0⟩

theorem un_pu {p : Nat} (h : p ≠ 0) : un p = pu (nd p) := by
  rw [nd_s h, un, pu, if_neg (by omega), Nat.add_sub_cancel]
set_option maxHeartbeats 4000000 in
set_option maxRecDepth 100000 in
theorem c_X1_sailAlong (hG : GmAt h g G) {a p : Int32} : Spec l D cA N0 m_X1_sailAlong 4 0 0 [.ref g, .int a, .int p] h (fun r h' => r = some (.int (k_sail G a p).1) ∧ h' = gput h g (k_sail G a p).2) := by
  refine Spec.of (L := [some (.ref g), some (.int a), some (.int p), none, none, none, none, none]) (by decide) rfl (Nat.le_of_ble_eq_true rfl) ?_
  have go := hG.o0
  have gc0 := hG.c0
  have gc1 := hG.c1
  have gi := hG.is
  have gs := hG.sa
  have q0 := (gput_self hG).symm
  refine R_aload_n0 (pc := 0) dX1_sailAlong_0 ?_
  refine R_iload_n1 (pc := 1) dX1_sailAlong_1 ?_
  refine R_callV1 (pc := 2) (T := TX1) cal_X1_known kw281 kw282 kw283 dX1_sailAlong_2 (c_X1_known (by assumption)) (by decide) (Nat.le_of_ble_eq_true rfl) (ci := 1) rfl (by assumption) ?_
  rintro _ _ ⟨⟨z2, hz2, rfl⟩, rfl⟩
  rcases k_known_cases _ _ with ⟨kv2, kz2⟩ | ⟨k2, kl2, kx2, kv2, kz2⟩ <;> (rw [kz2] at hz2; subst hz2)
  · skip
    refine R_astoreN_n3 (pc := 5) dX1_sailAlong_5 rfl (by decide) ?_
    refine R_aloadN_n3 (pc := 6) dX1_sailAlong_6 ?_
    refine R_ifnullN (pc := 7) 17 dX1_sailAlong_7 (by decide) ?_
    refine R_iconst (pc := 17) (v := (-1)) dX1_sailAlong_17 (by decide) ?_
    refine R_iret (pc := 18) rfl rfl dX1_sailAlong_18 ?_
    exact ⟨by simp (decide := true) only [k_sail, kz2, reduceCtorEq, if_true, if_false, reduceIte, and_true, true_and, and_false, false_and, and_self, or_true, true_or, or_false, false_or, or_self, not_true, not_false_iff]; try rfl, q0.trans (congrArg (gput _ g) (by simp (decide := true) only [k_sail, kz2, reduceCtorEq, if_true, if_false, reduceIte, and_true, true_and, and_false, false_and, and_self, or_true, true_or, or_false, false_or, or_self, not_true, not_false_iff]; try rfl))⟩
  · skip
    have kg2 := hG.sh kl2
    refine R_astore_n3 (pc := 5) dX1_sailAlong_5 rfl (by decide) ?_
    refine R_aload_n3 (pc := 6) dX1_sailAlong_6 ?_
    refine R_ifnull (pc := 7) dX1_sailAlong_7 ?_
    refine R_iload_n2 (pc := 10) dX1_sailAlong_10 ?_
    refine R_callS1 (pc := 11) cal_X5_isPath kw606 kw607 dX1_sailAlong_11 c_X5_isPath (by decide) (Nat.le_of_ble_eq_true rfl) ?_
    rintro _ _ ⟨rfl, rfl⟩
    refine R_ifb_ne (pc := 14) 19 dX1_sailAlong_14 (by decide) (fun c_14 => ?_) (fun c_14 => ?_)
    · skip
      obtain ⟨pn, hpn, hpe⟩ := nI_of2 (M := 999999) (n := 999999) (by decide) (fun z => absurd (of_decide_eq_true c_14).1.1 (Int32.not_lt.mpr (Int32.le_of_lt z))) (of_decide_eq_true c_14).1.2
      subst hpe
      have hpc : (nI pn).toNatClampNeg = pn := nI_clamp (by omega)
      have hp0 : pn ≠ 0 := fun e => by have z := (of_decide_eq_true c_14).1.1; rw [e] at z; exact absurd z (by decide)
      have hnd := nd_le 6 pn (by omega)
      refine R_aload_n0 (pc := 19) dX1_sailAlong_19 ?_
      refine G_X1_43 (pc := 20) dX1_sailAlong_20 (by assumption) ?_
      refine R_if_eq (pc := 23) 53 dX1_sailAlong_23 (by decide) (fun c_23 => ?_) (fun c_23 => ?_)
      · skip
        refine R_bipush (pc := 53) (v := (-2)) dX1_sailAlong_53 (by decide) ?_
        refine R_iret (pc := 55) rfl rfl dX1_sailAlong_55 ?_
        exact ⟨by simp (decide := true) only [k_sail, hpc, kz2, c_14, c_23, reduceCtorEq, if_true, if_false, reduceIte, and_true, true_and, and_false, false_and, and_self, or_true, true_or, or_false, false_or, or_self, not_true, not_false_iff]; try rfl, q0.trans (congrArg (gput _ g) (by simp (decide := true) only [k_sail, hpc, kz2, c_14, c_23, reduceCtorEq, if_true, if_false, reduceIte, and_true, true_and, and_false, false_and, and_self, or_true, true_or, or_false, false_or, or_self, not_true, not_false_iff]; try rfl))⟩
      · skip
        refine R_aload_n3 (pc := 26) dX1_sailAlong_26 ?_
        refine R_callV0 (pc := 27) (T := TX7) cal_X7_floats kw369 kw370 kw371 dX1_sailAlong_27 (c_X7_floats (by assumption)) (by decide) (Nat.le_of_ble_eq_true rfl) (ci := 5) rfl (by assumption) ?_
        rintro _ _ ⟨rfl, rfl⟩
        refine R_ifb_eq (pc := 30) 53 dX1_sailAlong_30 (by decide) (fun c_30 => ?_) (fun c_30 => ?_)
        · skip
          refine R_bipush (pc := 53) (v := (-2)) dX1_sailAlong_53 (by decide) ?_
          refine R_iret (pc := 55) rfl rfl dX1_sailAlong_55 ?_
          exact ⟨by simp (decide := true) only [k_sail, hpc, kz2, c_14, c_23, c_30, reduceCtorEq, if_true, if_false, reduceIte, and_true, true_and, and_false, false_and, and_self, or_true, true_or, or_false, false_or, or_self, not_true, not_false_iff]; try rfl, q0.trans (congrArg (gput _ g) (by simp (decide := true) only [k_sail, hpc, kz2, c_14, c_23, c_30, reduceCtorEq, if_true, if_false, reduceIte, and_true, true_and, and_false, false_and, and_self, or_true, true_or, or_false, false_or, or_self, not_true, not_false_iff]; try rfl))⟩
        · skip
          refine R_aload_n3 (pc := 33) dX1_sailAlong_33 ?_
          refine R_iconst (pc := 34) (v := 1) dX1_sailAlong_34 (by decide) ?_
          refine R_callV1 (pc := 35) (T := TX7) cal_X7_has kw610 kw611 kw612 dX1_sailAlong_35 (c_X7_has (by assumption)) (by decide) (Nat.le_of_ble_eq_true rfl) (ci := 5) rfl (by assumption) ?_
          rintro _ _ ⟨rfl, rfl⟩
          refine R_ifb_ne (pc := 38) 53 dX1_sailAlong_38 (by decide) (fun c_38 => ?_) (fun c_38 => ?_)
          · skip
            refine R_bipush (pc := 53) (v := (-2)) dX1_sailAlong_53 (by decide) ?_
            refine R_iret (pc := 55) rfl rfl dX1_sailAlong_55 ?_
            exact ⟨by simp (decide := true) only [k_sail, hpc, kz2, c_14, c_23, c_30, c_38, reduceCtorEq, if_true, if_false, reduceIte, and_true, true_and, and_false, false_and, and_self, or_true, true_or, or_false, false_or, or_self, not_true, not_false_iff]; try rfl, q0.trans (congrArg (gput _ g) (by simp (decide := true) only [k_sail, hpc, kz2, c_14, c_23, c_30, c_38, reduceCtorEq, if_true, if_false, reduceIte, and_true, true_and, and_false, false_and, and_self, or_true, true_or, or_false, false_or, or_self, not_true, not_false_iff]; try rfl))⟩
          · skip
            refine R_iload_n2 (pc := 41) dX1_sailAlong_41 ?_
            refine R_callS1 (pc := 42) cal_X5_stepsOf kw614 kw539 dX1_sailAlong_42 (c_X5_stepsOf (p := pn) (by omega)) (by decide) (Nat.le_of_ble_eq_true rfl) ?_
            rintro _ _ ⟨rfl, rfl⟩
            refine R_aload_n0 (pc := 45) dX1_sailAlong_45 ?_
            refine R_aload_n3 (pc := 46) dX1_sailAlong_46 ?_
            refine R_callV1 (pc := 47) (T := TX1) cal_X1_stepsNow kw449 kw450 kw451 dX1_sailAlong_47 (c_X1_stepsNow (by assumption) (by assumption)) (by decide) (Nat.le_of_ble_eq_true rfl) (ci := 1) rfl (by assumption) ?_
            rintro _ _ ⟨rfl, rfl⟩
            refine R_icmp_le (pc := 50) 56 dX1_sailAlong_50 (by decide) (fun c_50 => ?_) (fun c_50 => ?_)
            · skip
              have d_50 := Int32.not_lt.mpr c_50
              refine R_aload_n3 (pc := 56) dX1_sailAlong_56 ?_
              refine G_X1_73 (pc := 57) dX1_sailAlong_57 (by assumption) ?_
              refine R_istore4 (pc := 60) dX1_sailAlong_60 rfl (by decide) ?_
              refine R_aload_n3 (pc := 62) dX1_sailAlong_62 ?_
              refine G_X1_108 (pc := 63) dX1_sailAlong_63 (by assumption) ?_
              refine R_istore5 (pc := 66) dX1_sailAlong_66 rfl (by decide) ?_
              refine R_iload_n2 (pc := 68) dX1_sailAlong_68 ?_
              refine R_callS1 (pc := 69) cal_X5_unitOf kw615 kw616 dX1_sailAlong_69 (c_X5_unitOf (p := pn) (by omega)) (by decide) (Nat.le_of_ble_eq_true rfl) ?_
              rintro _ _ ⟨rfl, rfl⟩
              refine R_istore6 (pc := 72) dX1_sailAlong_72 rfl (by decide) ?_
              rw [un_pu hp0]
              have hk : k_sail G a (nI pn) = k_sfin G k2 (k_go G k2 pn (nd pn) (shF G k2 2) (shF G k2 3)) := by simp (decide := true) only [k_sail, hpc, kz2, c_14, c_23, c_30, c_38, c_50, d_50, reduceCtorEq, if_true, if_false, reduceIte, and_true, true_and, and_false, false_and, and_self, or_true, true_or, or_false, false_or, or_self, not_true, not_false_iff]
              rw [hk]
              exact L_X1_sailAlong hG kl2 (by omega) (nd pn) hnd _ _
            · skip
              have d_50 := Int32.not_le.mp c_50
              refine R_bipush (pc := 53) (v := (-2)) dX1_sailAlong_53 (by decide) ?_
              refine R_iret (pc := 55) rfl rfl dX1_sailAlong_55 ?_
              exact ⟨by simp (decide := true) only [k_sail, hpc, kz2, c_14, c_23, c_30, c_38, c_50, d_50, reduceCtorEq, if_true, if_false, reduceIte, and_true, true_and, and_false, false_and, and_self, or_true, true_or, or_false, false_or, or_self, not_true, not_false_iff]; try rfl, q0.trans (congrArg (gput _ g) (by simp (decide := true) only [k_sail, hpc, kz2, c_14, c_23, c_30, c_38, c_50, d_50, reduceCtorEq, if_true, if_false, reduceIte, and_true, true_and, and_false, false_and, and_self, or_true, true_or, or_false, false_or, or_self, not_true, not_false_iff]; try rfl))⟩
    · skip
      refine R_iconst (pc := 17) (v := (-1)) dX1_sailAlong_17 (by decide) ?_
      refine R_iret (pc := 18) rfl rfl dX1_sailAlong_18 ?_
      exact ⟨by simp (decide := true) only [k_sail, kz2, c_14, reduceCtorEq, if_true, if_false, reduceIte, and_true, true_and, and_false, false_and, and_self, or_true, true_or, or_false, false_or, or_self, not_true, not_false_iff]; try rfl, q0.trans (congrArg (gput _ g) (by simp (decide := true) only [k_sail, kz2, c_14, reduceCtorEq, if_true, if_false, reduceIte, and_true, true_and, and_false, false_and, and_self, or_true, true_or, or_false, false_or, or_self, not_true, not_false_iff]; try rfl))⟩

end LV8
