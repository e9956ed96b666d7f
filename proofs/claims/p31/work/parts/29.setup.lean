/-! ISLANDS, NEW SHIPS, CARDS -/
theorem Inv_0 : Inv 0 0 G0 := by
  have hs : ∀ i j, j ≠ 0 → j ≠ 8 → shF G0 i j = 0 := fun i j h0 h8 => by
    show (if j = 0 then nI i else if j = 8 then (-9 : Int32) else 0) = 0
    rw [if_neg h0, if_neg h8]
  have h8 : ∀ i, shF G0 i 8 = -9 := fun i => rfl
  refine ⟨⟨by decide, rfl, rfl, by decide, ⟨0, by decide, rfl⟩, ⟨2, by decide, by decide, rfl⟩, fun c hc => ?_, fun e _ => Or.inl rfl⟩, ⟨fun i _ => ?_, fun i _ _ => ⟨hs i 4 (by decide) (by decide), h8 i⟩⟩, ⟨fun i j _ _ _ n1 _ => absurd (hs i 4 (by decide) (by decide)) n1, fun i e _ _ _ _ => rfl⟩, fun i _ => Or.inl (h8 i)⟩
  · rcases (by omega : c = 0 ∨ c = 1) with rfl | rfl
    · exact ⟨⟨63, by decide, by decide, rfl⟩, rfl, ⟨10, by decide, rfl⟩⟩
    · exact ⟨⟨63, by decide, by decide, rfl⟩, rfl, ⟨10, by decide, rfl⟩⟩
  · have z : ∀ n, 0 < n → nB (0 : Int32) n := fun n hn => ⟨0, hn, rfl⟩
    unfold Sh
    rw [hs i 1 (by decide) (by decide), hs i 2 (by decide) (by decide), hs i 3 (by decide) (by decide), hs i 4 (by decide) (by decide), hs i 5 (by decide) (by decide), hs i 6 (by decide) (by decide), hs i 7 (by decide) (by decide), hs i 11 (by decide) (by decide)]
    exact ⟨z _ (by decide), z _ (by decide), z _ (by decide), z _ (by decide), z _ (by decide), z _ (by decide), z _ (by decide), z _ (by decide)⟩
theorem sG_at (X : Gm) (k : Nat) (v : Int32) : (sG X k v).1 k = v := if_pos rfl
section SV
variable {sn T : Nat} {G : Gm}
theorem Inv.isls (h : Inv sn T G) : k_isls G = nI (sm (fun j => (G.2.1 j).toNatClampNeg) 81) ∧ sm (fun j => (G.2.1 j).toNatClampNeg) 81 ≤ 81 * 1 := by
  have hb : ∀ j, j < 81 → G.2.1 j = nI (G.2.1 j).toNatClampNeg ∧ (G.2.1 j).toNatClampNeg ≤ 1 := fun j hj => by
    rcases h.isl j hj with e | e <;> rw [e] <;> exact ⟨rfl, by decide⟩
  exact ⟨kf_sm 81 (fun a j hj => by rw [← (hb j hj).1]), sm_le 81 (fun j hj => (hb j hj).2)⟩
theorem Inv.place (h : Inv 0 T G) {e : Nat} (he : e < 81) : ∃ v H, k_place G (nI e) 1 = (v, H) ∧ Inv 0 T H ∧ H.1 1 = G.1 1 ∧ ¬ v < k_isls G ∧ k_cont H (nI e) = 8 := by
  have hon : k_on G (nI e) = none := ff_none 8 0 (fun j _ hj => decide_eq_false (fun z => by
    rw [(h.ub (Nat.zero_le j) (by omega)).1] at z
    exact absurd z.1 (by decide)))
  have key : k_place G (nI e) 1 = (k_isls (sI G (upd G.2.1 e 1)), sI G (upd G.2.1 e 1)) := by
    unfold k_place
    rw [if_pos ⟨nI81 he, by decide, by decide⟩, if_pos hon, nI_clamp (by omega)]
  have hI : Inv 0 T (sI G (upd G.2.1 e 1)) := by
    obtain ⟨b1, b2, b3, b4, b5, b6, b7, b8⟩ := h.1
    refine ⟨⟨b1, b2, b3, b4, b5, b6, b7, fun x hx => ?_⟩, h.2.1, ⟨h.2.2.1.1, fun i x hi hx n1 _ => absurd (h.ub (Nat.zero_le i) hi).1 n1⟩, h.2.2.2⟩
    show upd G.2.1 e 1 x = 0 ∨ upd G.2.1 e 1 x = 1
    by_cases c : x = e
    · rw [c, pk_us]; exact Or.inr rfl
    · rw [pk_un c]; exact b8 x hx
  refine ⟨_, _, key, hI, rfl, ?_, ?_⟩
  · rw [h.isls.1, hI.isls.1, nI_ltI (by have := hI.isls.2; omega) (by have := h.isls.2; omega)]
    refine Nat.not_lt.mpr (sm_mono 81 (fun j hj => ?_))
    show _ ≤ (upd G.2.1 e 1 j).toNatClampNeg
    by_cases c : j = e
    · rw [c, pk_us]
      rcases h.isl e he with z | z <;> rw [z] <;> decide
    · rw [pk_un c]; exact Nat.le_refl _
  · unfold k_cont
    rw [if_pos (k_isl_t (G := sI G (upd G.2.1 e 1)) ⟨nI81 he, by rw [nI_clamp (by omega)]; exact pk_us⟩)]
theorem Inv.launch (h : Inv sn T G) {c x d s r g : Nat} (hc : c < 2) (hx : x < 81) (hd : d < 6) (hs : 1 ≤ s ∧ s ≤ 8) (hr : 1 ≤ r ∧ r ≤ 40) (hg : g ≤ 9) : (¬ k_free G (nI x) = true ∧ k_launch G sn (nI c) (nI x) (nI d) (nI s) (nI r) (nI g) = (-2, G)) ∨ (k_free G (nI x) = true ∧ sn = 8 ∧ k_launch G sn (nI c) (nI x) (nI d) (nI s) (nI r) (nI g) = (-3, G)) ∨ (k_free G (nI x) = true ∧ sn < 8 ∧ ∃ H, k_launch G sn (nI c) (nI x) (nI d) (nI s) (nI r) (nI g) = (nI sn, H) ∧ Inv (sn + 1) T H ∧ H.1 1 = G.1 1 ∧ shF H sn 2 = nI x ∧ shF H sn 4 = 20) := by
  have hn := h.n
  have hcond : (nI c = 0 ∨ nI c = 1) ∧ (0 ≤ nI x ∧ nI x < 81) ∧ (0 ≤ nI d ∧ nI d < 6) ∧ 1 ≤ nI s ∧ nI s ≤ 8 ∧ 1 ≤ nI r ∧ nI r ≤ 40 ∧ 0 ≤ nI g ∧ nI g ≤ 9 := ⟨by rcases (by omega : c = 0 ∨ c = 1) with rfl | rfl; exact Or.inl rfl; exact Or.inr rfl, nI81 hx, ⟨nI_pos' (by omega), (nI_ltI (b := 6) (by omega) (by decide)).mpr hd⟩, (nI_leI (a := 1) (by decide) (by omega)).mpr hs.1, (nI_leI (b := 8) (by omega) (by decide)).mpr hs.2, (nI_leI (a := 1) (by decide) (by omega)).mpr hr.1, (nI_leI (b := 40) (by omega) (by decide)).mpr hr.2, nI_pos' (by omega), (nI_leI (b := 9) (by omega) (by decide)).mpr hg⟩
  unfold k_launch
  rw [if_pos hcond]
  by_cases cf : k_free G (nI x) = true
  · rw [if_pos cf, h.k4]
    by_cases c8 : sn < 8
    · rw [if_pos (show nI sn < 8 from (nI_ltI (b := 8) (by omega) (by decide)).mpr c8), show (1 : Int32) = nI 1 from rfl, nI_add]
      refine Or.inr (Or.inr ⟨cf, c8, _, rfl, ?_⟩)
      obtain ⟨i1, i2⟩ := h.free_i hx cf
      obtain ⟨u4, u8⟩ := h.ub (Nat.le_refl sn) c8
      have e4g : ∀ k, k ≠ 4 → (sG (k_lsets G sn (nI c) (nI x) (nI d) (nI s) (nI r) (nI g)) 4 (nI (sn + 1))).1 k = G.1 k := fun k hk => pk_un hk
      have hk : ∀ a k, shF (sG (k_lsets G sn (nI c) (nI x) (nI d) (nI s) (nI r) (nI g)) 4 (nI (sn + 1))) a k = if a = sn ∧ k = 7 then nI g else if a = sn ∧ k = 6 then nI r else if a = sn ∧ k = 5 then nI s else if a = sn ∧ k = 4 then 20 else if a = sn ∧ k = 3 then nI d else if a = sn ∧ k = 2 then nI x else if a = sn ∧ k = 1 then nI c else shF G a k := fun a k => by
        show shF (k_lsets G sn (nI c) (nI x) (nI d) (nI s) (nI r) (nI g)) a k = _
        unfold k_lsets
        rw [shv_7, shv_6, shv_5, shv_4, shv_3, shv_2, shv_1]
      have gc : ∀ a, cF (sG (k_lsets G sn (nI c) (nI x) (nI d) (nI s) (nI r) (nI g)) 4 (nI (sn + 1))) a = cF G a := fun a => cF_sG (by decide) a
      have g2 : (sG (k_lsets G sn (nI c) (nI x) (nI d) (nI s) (nI r) (nI g)) 4 (nI (sn + 1))).2.1 = G.2.1 := rfl
      have g4 : (sG (k_lsets G sn (nI c) (nI x) (nI d) (nI s) (nI r) (nI g)) 4 (nI (sn + 1))).1 4 = nI (sn + 1) := sG_at _ _ _
      generalize sG (k_lsets G sn (nI c) (nI x) (nI d) (nI s) (nI r) (nI g)) 4 (nI (sn + 1)) = H at e4g hk gc g2 g4
      have ha : ∀ a k, a ≠ sn → shF H a k = shF G a k := fun a k z => by
        rw [hk, if_neg (fun y => z y.1), if_neg (fun y => z y.1), if_neg (fun y => z y.1), if_neg (fun y => z y.1), if_neg (fun y => z y.1), if_neg (fun y => z y.1), if_neg (fun y => z y.1)]
      have ho : ∀ a k, 7 < k → shF H a k = shF G a k := fun a k z => by
        rw [hk, if_neg (fun y => by omega), if_neg (fun y => by omega), if_neg (fun y => by omega), if_neg (fun y => by omega), if_neg (fun y => by omega), if_neg (fun y => by omega), if_neg (fun y => by omega)]
      have w2 : shF H sn 2 = nI x := by rw [hk]; simp
      have w4 : shF H sn 4 = 20 := by rw [hk]; simp
      obtain ⟨b1, b2, b3, b4, b5, b6, b7, b8⟩ := h.1
      refine ⟨⟨⟨by omega, g4, by rw [e4g 0 (by decide)]; exact b3, b4, by rw [e4g 2 (by decide)]; exact b5, by rw [e4g 3 (by decide)]; exact b6, fun a ha2 => by rw [gc]; exact b7 a ha2, by rw [g2]; exact b8⟩, ⟨fun a a8 => ?_, fun a s1 s2 => by rw [ha a 4 (by omega), ha a 8 (by omega)]; exact h.ub (by omega) s2⟩, ⟨fun a b a8 b8 hab n1 n2 => ?_, fun a y a8 hy n1 n2 => ?_⟩, fun a a8 => ?_⟩, e4g 1 (by decide), w2, w4⟩
      · by_cases e : a = sn
        · have hs' := h.sh a8
          rw [e] at hs' ⊢
          unfold Sh at hs' ⊢
          rw [w2, w4, ho sn 11 (by decide), show shF H sn 1 = nI c by rw [hk]; simp, show shF H sn 3 = nI d by rw [hk]; simp, show shF H sn 5 = nI s by rw [hk]; simp, show shF H sn 6 = nI r by rw [hk]; simp, show shF H sn 7 = nI g by rw [hk]; simp]
          exact ⟨⟨c, hc, rfl⟩, ⟨x, hx, rfl⟩, ⟨d, hd, rfl⟩, ⟨20, by decide, rfl⟩, ⟨s, by omega, rfl⟩, ⟨r, by omega, rfl⟩, ⟨g, by omega, rfl⟩, hs'.2.2.2.2.2.2.2⟩
        · unfold Sh
          rw [ha a 1 e, ha a 2 e, ha a 3 e, ha a 4 e, ha a 5 e, ha a 6 e, ha a 7 e, ha a 11 e]
          exact h.sh a8
      · by_cases e1 : a = sn
        · have e2 : b ≠ sn := fun z => hab (e1.trans z.symm)
          rw [ha b 4 e2] at n2
          rw [e1, w2, ha b 2 e2]
          exact fun z => i2 b b8 n2 z.symm
        · rw [ha a 4 e1] at n1
          by_cases e2 : b = sn
          · rw [e2, w2, ha a 2 e1]
            exact i2 a a8 n1
          · rw [ha b 4 e2] at n2
            rw [ha a 2 e1, ha b 2 e2]
            exact h.px a8 b8 hab n1 n2
      · rw [g2]
        by_cases e1 : a = sn
        · rw [e1, w2] at n2
          rw [← (nI_eq (by omega) (by omega)).mp n2]; exact i1
        · rw [ha a 4 e1] at n1
          rw [ha a 2 e1] at n2
          exact h.pxi a8 hy n1 n2
      · rw [ho a 8 (by decide)]
        rcases h.pr a8 with z | ⟨j, z1, z2, z3, z4, z5⟩
        · exact Or.inl z
        · have ja : a ≠ sn := fun y => z5 (by rw [y]; exact u4)
          exact Or.inr ⟨j, by omega, z2, by rw [ho j 8 (by decide)]; exact z3, by rw [ha j 1 (by omega), ha a 1 ja]; exact z4, by rw [ha a 4 ja]; exact z5⟩
    · rw [if_neg (show ¬ nI sn < 8 from fun z => c8 ((nI_ltI (b := 8) (by omega) (by decide)).mp z))]
      exact Or.inr (Or.inl ⟨cf, by omega, rfl⟩)
  · rw [if_neg cf]
    exact Or.inl ⟨cf, rfl⟩
/-! cards -/
theorem gsc (X : Gm) (c : Nat) (F : Nat → Int32) {k : Nat} (hk : k < 6) : (sC X c F).1 k = X.1 k := if_neg (by omega)
theorem bit_fin : ∀ hd : Fin 64, ∀ x : Fin 6, nI hd.1 >>> (nI x.1 &&& 31) &&& 1 = if hd.1.testBit x.1 = true then 1 else 0 := by decide +kernel
theorem tell_0 (h : Inv sn T G) (hm : G.1 1 = 0) {c : Nat} (hc : c < 2) {hd x : Nat} (eh : cF G c 0 = nI hd) (h64 : hd < 64) (hx : x < 6) (hb : hd.testBit x = true) : k_tell G (nI c) (nI x) = (k_told (k_told1 G (nI c) (nI x)), k_told1 G (nI c) (nI x)) := by
  unfold k_tell
  rw [cix_nI hc, if_pos ⟨by rcases (by omega : c = 0 ∨ c = 1) with rfl | rfl; exact Or.inl rfl; exact Or.inr rfl, nI_pos' (by omega), (nI_ltI (b := 6) (by omega) (by decide)).mpr hx⟩, if_neg (fun z => ?_)]
  rcases z with z | z | z
  · exact z hm
  · exact z (h.cp c hc).2.1
  · exact z (by rw [eh]; exact (hold_fin ⟨hd, h64⟩ ⟨x, hx⟩).mpr hb)
/-- both have told -/
theorem Inv.tells (h : Inv sn T G) (hm : G.1 1 = 0) {a b x y : Nat} (ea : cF G 0 0 = nI a) (eb : cF G 1 0 = nI b) (a6 : a < 64) (b6 : b < 64) (hx : x < 6) (hy : y < 6) (bx : a.testBit x = true) (by' : b.testBit y = true) : ∃ G1 G3, k_tell G 0 (nI x) = (1, G1) ∧ G1.1 4 = nI sn ∧ k_tell G1 0 (nI x) = (-2, G1) ∧ cF G1 0 1 = nI x ∧ k_tell G1 1 (nI y) = (3, G3) ∧ Inv sn T G3 ∧ G3.1 1 = 1 ∧ G3.1 2 = k_dir G (nI x + nI y) ∧ G3.1 3 = k_str (nI x + nI y) ∧ cF G3 0 1 = -9 ∧ k_tell G3 1 (nI y) = (-2, G3) ∧ bz G1 := by
  have c0 := h.cp 0 (by decide)
  have c1 := h.cp 1 (by decide)
  have k0 : ∀ (X : Gm) (c : Int32) (q : Nat), q < 6 → ¬ X.1 1 = 0 ∨ ¬ cF X (cix c) 1 = -9 → (c = 0 ∨ c = 1) → k_tell X c (nI q) = (-2, X) := fun X c q hq hc h01 => by
    unfold k_tell
    rw [if_pos ⟨h01, nI_pos' (by omega), (nI_ltI (b := 6) (by omega) (by decide)).mpr hq⟩, if_pos (hc.elim Or.inl (fun z => Or.inr (Or.inl z)))]
  -- the first card
  have e1 : k_told1 G 0 (nI x) = sK G 0 1 (nI x) := by
    unfold k_told1
    rw [show cix 0 = 0 from rfl]
    rw [if_pos (Or.inr (by rw [ckv _ _ _ _ _ _ (by decide), if_neg (fun z => absurd z.1 (by decide))]; exact c1.2.1))]
  have f0 : ∀ a k, k < 3 → cF (sK G 0 1 (nI x)) a k = if a = 0 ∧ k = 1 then nI x else cF G a k := fun a k hk => ckv _ _ _ _ _ _ hk
  have m1 : ∀ k, k < 6 → (sK G 0 1 (nI x)).1 k = G.1 k := fun k hk => gkv _ _ _ _ _ hk
  have t1 : k_tell G 0 (nI x) = (1, sK G 0 1 (nI x)) := by
    rw [show (0 : Int32) = nI 0 from rfl, tell_0 h hm (by decide) ea a6 hx bx]
    rw [show nI 0 = (0 : Int32) from rfl, e1]
    unfold k_told
    have q01 : cF (sK G 0 1 (nI x)) 0 1 = nI x := by rw [f0 0 1 (by decide), if_pos ⟨rfl, rfl⟩]
    have q11 : cF (sK G 0 1 (nI x)) 1 1 = -9 := by rw [f0 1 1 (by decide), if_neg (by decide)]; exact c1.2.1
    rw [m1 1 (by decide), if_pos hm, q01, q11, if_neg (nI9 (by omega)), if_pos rfl]
    rfl
  -- the second
  have g0 : ∀ a k, k < 3 → cF (sK (sK G 0 1 (nI x)) 1 1 (nI y)) a k = if a = 1 ∧ k = 1 then nI y else if a = 0 ∧ k = 1 then nI x else cF G a k := fun a k hk => by rw [ckv _ _ _ _ _ _ hk, f0 a k hk]
  have m2 : ∀ k, k < 6 → (sK (sK G 0 1 (nI x)) 1 1 (nI y)).1 k = G.1 k := fun k hk => by rw [gkv _ _ _ _ _ hk, m1 k hk]
  have e2 : k_told1 (sK G 0 1 (nI x)) 1 (nI y) = k_begin (sK (sK G 0 1 (nI x)) 1 1 (nI y)) := by
    unfold k_told1
    rw [show cix 1 = 1 from rfl]
    rw [g0 0 1 (by decide), g0 1 1 (by decide), if_neg (show ¬ (0 = 1 ∧ 1 = 1) by decide), if_pos (show 0 = 0 ∧ 1 = 1 by decide), if_pos (show 1 = 1 ∧ 1 = 1 by decide), if_neg (fun z => z.elim (nI9 (by omega)) (nI9 (by omega)))]
  generalize hY : sK (sK G 0 1 (nI x)) 1 1 (nI y) = Y at g0 m2 e2
  have y0 : cF Y 0 1 = nI x := by rw [g0 0 1 (by decide), if_neg (by decide), if_pos (by decide)]
  have y1 : cF Y 1 1 = nI y := by rw [g0 1 1 (by decide), if_pos (by decide)]
  have y00 : cF Y 0 0 = nI a := by rw [g0 0 0 (by decide), if_neg (by decide), if_neg (by decide)]; exact ea
  have y10 : cF Y 1 0 = nI b := by rw [g0 1 0 (by decide), if_neg (by decide), if_neg (by decide)]; exact eb
  obtain ⟨p0, p1, p2⟩ := k_lay_ev a6 hx bx y00 y0
  have l0 : ∀ j, j < 3 → cF (k_begin Y) 0 j = k_lay (cF Y 0) j := fun j hj => by
    unfold k_begin
    dsimp only
    rw [cF_sG (by decide), cF_sC' hj (by decide), cF_sC hj, cF_sG (by decide), cF_sG (by decide)]
  have l1 : cF (k_begin Y) 1 0 = nI (if b - 2 ^ y = 0 then 63 else b - 2 ^ y) ∧ cF (k_begin Y) 1 1 = -9 ∧ cF (k_begin Y) 1 2 = cF Y 1 2 := by
    have this : ∀ k, k < 3 → cF (sC (sG (sG Y 2 (k_dir Y (cF Y 0 1 + cF Y 1 1))) 3 (k_str (cF Y 0 1 + cF Y 1 1))) 0 (k_lay (cF (sG (sG Y 2 (k_dir Y (cF Y 0 1 + cF Y 1 1))) 3 (k_str (cF Y 0 1 + cF Y 1 1))) 0))) 1 k = cF Y 1 k := fun k hk => by rw [cF_sC' hk (by decide), cF_sG (by decide), cF_sG (by decide)]
    have hj : ∀ j, j < 3 → cF (k_begin Y) 1 j = k_lay (cF (sC (sG (sG Y 2 (k_dir Y (cF Y 0 1 + cF Y 1 1))) 3 (k_str (cF Y 0 1 + cF Y 1 1))) 0 (k_lay (cF (sG (sG Y 2 (k_dir Y (cF Y 0 1 + cF Y 1 1))) 3 (k_str (cF Y 0 1 + cF Y 1 1))) 0))) 1) j := fun j hj => by
      unfold k_begin
      dsimp only
      rw [cF_sG (by decide), cF_sC hj]
    obtain ⟨w0, w1, w2⟩ := k_lay_ev b6 hy by' ((this 0 (by decide)).trans y10) ((this 1 (by decide)).trans y1)
    exact ⟨(hj 0 (by decide)).trans w0, (hj 1 (by decide)).trans w1, (hj 2 (by decide)).trans (w2.trans (this 2 (by decide)))⟩
  have s6 : nI x + nI y = nI (x + y) := nI_add x y
  have b2 : (k_begin Y).1 2 = k_dir G (nI x + nI y) := by
    unfold k_begin
    dsimp only
    rw [show ∀ (X : Gm), (sG X 1 1).1 2 = X.1 2 from fun _ => rfl, gsc _ _ _ (by decide), gsc _ _ _ (by decide), y0, y1]
    show k_dir Y (nI x + nI y) = _
    unfold k_dir
    rw [m2 2 (by decide)]
  have b3 : (k_begin Y).1 3 = k_str (nI x + nI y) := by
    unfold k_begin
    dsimp only
    rw [show ∀ (X : Gm), (sG X 1 1).1 3 = X.1 3 from fun _ => rfl, gsc _ _ _ (by decide), gsc _ _ _ (by decide), y0, y1]
    rfl
  have b0 : (k_begin Y).1 0 = G.1 0 := by
    unfold k_begin
    dsimp only
    rw [show ∀ (X : Gm), (sG X 1 1).1 0 = X.1 0 from fun _ => rfl, gsc _ _ _ (by decide), gsc _ _ _ (by decide)]
    exact m2 0 (by decide)
  have b4 : (k_begin Y).1 4 = G.1 4 := by
    unfold k_begin
    dsimp only
    rw [show ∀ (X : Gm), (sG X 1 1).1 4 = X.1 4 from fun _ => rfl, gsc _ _ _ (by decide), gsc _ _ _ (by decide)]
    exact m2 4 (by decide)
  have b1 : (k_begin Y).1 1 = 1 := rfl
  have hsh : ∀ i k, shF (k_begin Y) i k = shF G i k := fun i k => by rw [← hY]; rfl
  have hil : (k_begin Y).2.1 = G.2.1 := by rw [← hY]; rfl
  obtain ⟨d, hd, ed⟩ := h.dB
  have hI : Inv sn T (k_begin Y) := by
    have hb : ∀ {q z : Nat}, q < 64 → z < 6 → q.testBit z = true → ∃ w, 0 < w ∧ w < 64 ∧ nI (if q - 2 ^ z = 0 then 63 else q - 2 ^ z) = nI w := fun {q z} hq _ _ => ⟨if q - 2 ^ z = 0 then 63 else q - 2 ^ z, by have := Nat.sub_le q (2 ^ z); split <;> omega, by have := Nat.sub_le q (2 ^ z); split <;> omega, rfl⟩
    refine ⟨⟨h.n, by rw [b4]; exact h.k4, by rw [b0]; exact h.k0, h.t4, ?_, ?_, fun c hc => ?_, by rw [hil]; exact h.isl⟩, ⟨fun i hi => ?_, fun i q1 q2 => by rw [hsh, hsh]; exact h.ub q1 q2⟩, h.2.2.1.sub (fun i _ z => by rw [hsh] at z; exact z) (fun i _ _ => hsh i 2) hil, fun i hi => ?_⟩
    · rw [b2, s6]
      unfold k_dir
      rw [ed, nI_add, show (6 : Int32) = nI 6 from rfl, pk_rem (by omega) (by decide) (by decide)]
      exact ⟨_, Nat.mod_lt _ (by decide), rfl⟩
    · rw [b3, s6]
      unfold k_str
      rw [show (3 : Int32) = nI 3 from rfl, pk_rem (by omega) (by decide) (by decide), show (1 : Int32) = nI 1 from rfl, nI_add]
      exact ⟨(x + y) % 3 + 1, by omega, by omega, rfl⟩
    · rcases (by omega : c = 0 ∨ c = 1) with rfl | rfl
      · rw [l0 0 (by decide), l0 1 (by decide), l0 2 (by decide), p0, p1, p2]
        refine ⟨hb a6 hx bx, rfl, ?_⟩
        rw [g0 0 2 (by decide), if_neg (by decide), if_neg (by decide)]; exact c0.2.2
      · rw [l1.1, l1.2.1, l1.2.2]
        refine ⟨hb b6 hy by', rfl, ?_⟩
        rw [g0 1 2 (by decide), if_neg (by decide), if_neg (by decide)]; exact c1.2.2
    · unfold Sh
      rw [hsh, hsh, hsh, hsh, hsh, hsh, hsh, hsh]
      exact h.sh hi
    · rcases h.pr hi with z | ⟨j, z1, z2, z3, z4, z5⟩
      · exact Or.inl (by rw [hsh]; exact z)
      · exact Or.inr ⟨j, z1, by rw [hsh]; exact z2, by rw [hsh]; exact z3, by rw [hsh, hsh]; exact z4, by rw [hsh]; exact z5⟩
  refine ⟨sK G 0 1 (nI x), k_begin Y, t1, by rw [m1 4 (by decide)]; exact h.k4, k0 _ 0 x hx (Or.inr ?_) (Or.inl rfl), by rw [f0 0 1 (by decide), if_pos ⟨rfl, rfl⟩], ?_, hI, b1, b2, b3, by rw [l0 1 (by decide)]; exact p1, k0 _ 1 y hy (Or.inl (by rw [b1]; decide)) (Or.inr rfl), Or.inl (by rw [m1 1 (by decide)]; exact hm)⟩
  · rw [show cix 0 = 0 from rfl, f0 0 1 (by decide), if_pos ⟨rfl, rfl⟩]
    exact nI9 (by omega)
  · unfold k_tell
    rw [show cix 1 = 1 from rfl, if_pos ⟨Or.inr rfl, nI_pos' (by omega), (nI_ltI (b := 6) (by omega) (by decide)).mpr hy⟩, if_neg (fun z => ?_), e2]
    · unfold k_told
      rw [b1, if_neg (by decide)]
    · rcases z with z | z | z
      · exact z (by rw [m1 1 (by decide)]; exact hm)
      · exact z (by rw [f0 1 1 (by decide), if_neg (fun y => absurd y.1 (by decide))]; exact c1.2.1)
      · refine z ?_
        rw [f0 1 0 (by decide), if_neg (fun y => absurd y.1 (by decide)), eb]
        exact (hold_fin ⟨b, b6⟩ ⟨y, hy⟩).mpr by'
end SV
