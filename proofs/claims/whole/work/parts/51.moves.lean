/-! THE TIE: addShip, sail, grapple, cut -/
section TJ
variable {T U sn : Nat} {dn dn2 : Nat → Int32 → Int32} {G : Gm} {s : Nat → Int32} {M : Mm}
theorem RGd.put (h : RGd T sn dn G s) (hU : T ≤ U) {a : Nat} (ha : a < sn) {j k : Nat} (hj : j ≠ 0) (hk : k < 11) {v w : Int32} (hd : ∀ b, b < sn → b ≠ a → dn2 b = dn b) (hp : Shp U sn (upd (shF G a) j v)) (hr : Shr U (upd (shF G a) j v) (px s a k w) a (dn2 a)) : RGd U sn dn2 (sF G a j v) (px s a k w) :=
  h.ship hU ha (pk_un (fun z => hj z.symm)) hp (fun q hq => px_lo s a k w hq) (fun b hb hne l hl => gx_pxi hk hl hne) hd hr
theorem RGd.cut1 (h : RGd T sn dn G s) {a : Nat} (ha : a < sn) : RGd T sn dn (sF G a 8 (-9)) (px s a 7 (-1)) := by
  have hn := h.n
  have hp := h.shp a (by omega)
  have hr := h.shr a ha
  have e : ∀ l, l < 11 → l ≠ 7 → gx (px s a 7 (-1)) a l = gx s a l := fun l h1 h2 => gx_px (by decide) h1 h2
  refine h.put (Nat.le_refl T) ha (by decide) (by decide) (fun _ _ _ => rfl) ⟨hp.1, hp.2.1, hp.2.2.1, hp.2.2.2.1, hp.2.2.2.2.1, hp.2.2.2.2.2.1, hp.2.2.2.2.2.2.1, Or.inl rfl, hp.2.2.2.2.2.2.2.2⟩ ⟨?_, ?_, ?_, ?_, ?_, ?_, ?_, ?_, ?_, ?_, ?_⟩
  · rw [e 0 (by decide) (by decide)]; exact hr.1
  · rw [e 1 (by decide) (by decide)]; exact hr.2.1
  · rw [e 2 (by decide) (by decide)]; exact hr.2.2.1
  · rw [e 3 (by decide) (by decide)]; exact hr.2.2.2.1
  · rw [e 4 (by decide) (by decide)]; exact hr.2.2.2.2.1
  · rw [e 5 (by decide) (by decide)]; exact hr.2.2.2.2.2.1
  · rw [e 6 (by decide) (by decide)]; exact hr.2.2.2.2.2.2.1
  · rw [gx_pxe]; exact (if_pos rfl).symm
  · rw [e 8 (by decide) (by decide)]; exact hr.2.2.2.2.2.2.2.2.1
  · rw [e 9 (by decide) (by decide)]; exact hr.2.2.2.2.2.2.2.2.2.1
  · rw [e 10 (by decide) (by decide)]; exact hr.2.2.2.2.2.2.2.2.2.2
/-- with whom a ship is grappled: in both -/
theorem RGd.with (h : RGd T sn dn G s) {a : Nat} (ha : a < sn) : (shF G a 8 = -9 ∧ gx s a 7 = -1 ∧ k_known G (shF G a 8) = none) ∨ ∃ w, w < sn ∧ shF G a 8 = nI w ∧ gx s a 7 = nI w ∧ k_known G (shF G a 8) = some w := by
  have hn := h.n
  have hp := h.shp a (by omega)
  have hr := (h.shr a ha).2.2.2.2.2.2.2.1
  rcases hp.2.2.2.2.2.2.2.1 with e | ⟨w, hw, e⟩
  · rw [if_pos e] at hr
    refine Or.inl ⟨e, hr, ?_⟩
    rw [e]
    rcases h.known (-9) with z | ⟨j, hj, z, _⟩
    · exact z.2
    · exact absurd (nI_pos' (show j < 2 ^ 31 by omega)) (by rw [← z]; decide)
  · rw [if_neg (by rw [e]; exact fun z => absurd (nI_pos' (show w < 2 ^ 31 by omega)) (by rw [z]; decide)), e] at hr
    refine Or.inr ⟨w, hw, e, hr, ?_⟩
    rw [e]
    rcases h.known (nI w) with z | ⟨j, hj, z, z2⟩
    · exact absurd (in_sn hw hn) z.1
    · rw [z2, (nI_eq (by omega) (by omega)).mp z]
theorem RGd.rel (h : RGd T sn dn G s) {a : Nat} (ha : a < sn) : RGd T sn dn (k_rel G a) (z_cutf s a) := by
  have hn := h.n
  unfold k_rel z_cutf
  rcases h.with ha with ⟨e1, e2, e3⟩ | ⟨w, hw, e1, e2, e3⟩
  · rw [e3, e2, if_pos (by decide)]
    show RGd T sn dn (sF G a 8 (-9)) s
    rw [show sF G a 8 (-9) = sS G a (shF G a) from by unfold sF; rw [← e1, upd_id]]
    exact h.ship (Nat.le_refl T) ha (shF_0 G a) (h.shp a (by omega)) (fun _ _ => rfl) (fun _ _ _ _ _ => rfl) (fun _ _ _ => rfl) (h.shr a ha)
  · rw [e3, e2, if_neg (nI_pos (by omega)), nI_clamp (show w < 2 ^ 31 by omega)]
    exact (h.cut1 hw).cut1 ha
theorem z_cutf_hi (s : Nat → Int32) {a j : Nat} (ha : a < 8) (hw : gx s a 7 < 0 ∨ ∃ w, w < 8 ∧ gx s a 7 = nI w) (hj : 181 ≤ j) : z_cutf s a j = s j := by
  unfold z_cutf
  rcases hw with e | ⟨w, hw, e⟩
  · rw [if_pos e]
  · split
    · rfl
    · rw [px_hi _ ha (by decide) _ hj, px_hi _ (by rw [e, nI_clamp (by omega)]; exact hw) (by decide) _ hj]
theorem z_lnch_lo (s : Nat → Int32) (n : Nat) (c x d sl cr g : Int32) {j : Nat} (hj : j < 93) : z_lnch s n c x d sl cr g j = upd s 10 (nI n + 1) j := by
  unfold z_lnch
  rw [px_lo _ _ _ _ hj, px_lo _ _ _ _ hj, px_lo _ _ _ _ hj, px_lo _ _ _ _ hj, px_lo _ _ _ _ hj, px_lo _ _ _ _ hj, px_lo _ _ _ _ hj, px_lo _ _ _ _ hj, px_lo _ _ _ _ hj, px_lo _ _ _ _ hj, px_lo _ _ _ _ hj]
theorem z_lnch_ne (s : Nat → Int32) {n a : Nat} (h : a ≠ n) (c x d sl cr g : Int32) {k : Nat} (hk : k < 11) : gx (z_lnch s n c x d sl cr g) a k = gx s a k := by
  unfold z_lnch
  rw [gx_pxi (by decide) hk h, gx_pxi (by decide) hk h, gx_pxi (by decide) hk h, gx_pxi (by decide) hk h, gx_pxi (by decide) hk h, gx_pxi (by decide) hk h, gx_pxi (by decide) hk h, gx_pxi (by decide) hk h, gx_pxi (by decide) hk h, gx_pxi (by decide) hk h, gx_pxi (by decide) hk h]
  exact pk_un (by omega)
theorem z_lnch_hi (s : Nat → Int32) {n : Nat} (hn : n < 8) (c x d sl cr g : Int32) {j : Nat} (hj : 181 ≤ j) : z_lnch s n c x d sl cr g j = s j := by
  unfold z_lnch
  rw [px_hi _ hn (by decide) _ hj, px_hi _ hn (by decide) _ hj, px_hi _ hn (by decide) _ hj, px_hi _ hn (by decide) _ hj, px_hi _ hn (by decide) _ hj, px_hi _ hn (by decide) _ hj, px_hi _ hn (by decide) _ hj, px_hi _ hn (by decide) _ hj, px_hi _ hn (by decide) _ hj, px_hi _ hn (by decide) _ hj, px_hi _ hn (by decide) _ hj]
  exact pk_un (by omega)
theorem z_lnch_sh (s : Nat → Int32) (n : Nat) (c x d sl cr g : Int32) : gx (z_lnch s n c x d sl cr g) n 0 = c ∧ gx (z_lnch s n c x d sl cr g) n 1 = x ∧ gx (z_lnch s n c x d sl cr g) n 2 = d ∧ gx (z_lnch s n c x d sl cr g) n 3 = 20 ∧ gx (z_lnch s n c x d sl cr g) n 4 = sl ∧ gx (z_lnch s n c x d sl cr g) n 5 = cr ∧ gx (z_lnch s n c x d sl cr g) n 6 = g ∧ gx (z_lnch s n c x d sl cr g) n 7 = -1 ∧ gx (z_lnch s n c x d sl cr g) n 8 = -9 ∧ gx (z_lnch s n c x d sl cr g) n 9 = -9 ∧ gx (z_lnch s n c x d sl cr g) n 10 = 0 := by
  simp [z_lnch, gx, px, upd]
theorem sim_launch (h : RG T sn G M.2.1) (m : Nat) (c x d sl cr g : Int32) : SIM T (k_launch G sn c x d sl cr g) M m (zw_launch M sn m c x d sl cr g) := by
  have hn := h.n
  unfold k_launch zw_launch
  by_cases q : (c = 0 ∨ c = 1) ∧ (0 ≤ x ∧ x < 81) ∧ (0 ≤ d ∧ d < 6) ∧ 1 ≤ sl ∧ sl ≤ 8 ∧ 1 ≤ cr ∧ cr ≤ 40 ∧ 0 ≤ g ∧ g ≤ 9
  · obtain ⟨c1, c2, c3, c4, c5, c6, c7, c8, c9⟩ := q
    obtain ⟨e, he, rfl⟩ := i_nI (n := 81) c2.1 c2.2 (by decide)
    rw [if_pos (show (c = 0 ∨ c = 1) ∧ (0 ≤ nI e ∧ nI e < 81) ∧ (0 ≤ d ∧ d < 6) ∧ 1 ≤ sl ∧ sl ≤ 8 ∧ 1 ≤ cr ∧ cr ≤ 40 ∧ 0 ≤ g ∧ g ≤ 9 from ⟨c1, c2, c3, c4, c5, c6, c7, c8, c9⟩), if_pos (show (0 ≤ c ∧ c ≤ 1) ∧ (0 ≤ nI e ∧ nI e ≤ 80) ∧ (0 ≤ d ∧ d ≤ 5) ∧ (1 ≤ sl ∧ sl ≤ 8) ∧ (1 ≤ cr ∧ cr ≤ 40) ∧ 0 ≤ g ∧ g ≤ 9 from ⟨(two_r c).mp c1, (hex_r _).mp c2, (six_r d).mp c3, ⟨c4, c5⟩, ⟨c6, c7⟩, c8, c9⟩), nI_clamp (show e < 2 ^ 31 by omega), h.free he]
    by_cases f : z_free M.2.1 sn e = true
    · rw [if_pos f, if_pos f]
      by_cases f8 : sn = 8
      · rw [if_neg (show ¬ G.1 4 < 8 by rw [h.k4, f8]; decide), if_pos f8]
        exact SIM.err h (by decide) m
      · rw [if_pos (show G.1 4 < 8 by rw [h.k4]; exact (nI_ltI (b := 8) (by omega) (by decide)).mpr (by omega)), if_neg f8]
        have hs : sn < 8 := by omega
        have hF : shF (sG (k_lsets G sn c (nI e) d sl cr g) 4 (G.1 4 + 1)) sn = upd (upd (upd (upd (upd (upd (upd (shF G sn) 1 c) 2 (nI e)) 3 d) 4 20) 5 sl) 6 cr) 7 g := by
          show shF (k_lsets G sn c (nI e) d sl cr g) sn = _
          unfold k_lsets
          rw [shF_sFe _ _ (by decide), shF_sFe _ _ (by decide), shF_sFe _ _ (by decide), shF_sFe _ _ (by decide), shF_sFe _ _ (by decide), shF_sFe _ _ (by decide), shF_sFe _ _ (by decide)]
        have hFo : ∀ a, a ≠ sn → shF (sG (k_lsets G sn c (nI e) d sl cr g) 4 (G.1 4 + 1)) a = shF G a := fun a ha => by
          show shF (k_lsets G sn c (nI e) d sl cr g) a = _
          unfold k_lsets
          rw [shF_sFn _ ha, shF_sFn _ ha, shF_sFn _ ha, shF_sFn _ ha, shF_sFn _ ha, shF_sFn _ ha, shF_sFn _ ha]
        have g1 : ∀ k, k ≠ 4 → (sG (k_lsets G sn c (nI e) d sl cr g) 4 (G.1 4 + 1)).1 k = G.1 k := fun k hk => pk_un hk
        have lo : ∀ j, j < 93 → j ≠ 10 → z_lnch M.2.1 sn c (nI e) d sl cr g j = M.2.1 j := fun j h1 h2 => by rw [z_lnch_lo _ _ _ _ _ _ _ _ h1, pk_un h2]
        have fr := h.fsh sn (Nat.le_refl _) hs
        obtain ⟨v0, v1, v2, v3, v4, v5, v6, v7, v8, v9, v10⟩ := z_lnch_sh M.2.1 sn c (nI e) d sl cr g
        have h2 : RG T (sn + 1) (sG (k_lsets G sn c (nI e) d sl cr g) 4 (G.1 4 + 1)) (z_lnch M.2.1 sn c (nI e) d sl cr g) := by
          refine ⟨by omega, ?_, ?_, by rw [g1 0 (by decide)]; exact h.tB, by rw [g1 0 (by decide), lo 0 (by decide) (by decide)]; exact h.s0, by rw [g1 1 (by decide)]; exact h.mv, by rw [g1 1 (by decide), lo 1 (by decide) (by decide)]; exact h.s1, by rw [g1 2 (by decide)]; exact h.dB, by rw [g1 2 (by decide), lo 2 (by decide) (by decide)]; exact h.s2, by rw [g1 3 (by decide)]; exact h.fB, by rw [g1 3 (by decide), lo 3 (by decide) (by decide)]; exact h.s3, by rw [g1 5 (by decide), lo 11 (by decide) (by decide)]; exact h.s11, fun b hb => ?_, fun j hj => ⟨(h.isl j hj).1, (lo _ (by omega) (by omega)).trans (h.isl j hj).2⟩, fun i hi => ?_, fun i hi => ?_, fun i h1 h2 => ?_, fun i hi => ?_⟩
          · show upd G.1 4 (G.1 4 + 1) 4 = nI (sn + 1)
            rw [pk_us, h.k4, nI_1]
          · rw [z_lnch_lo _ _ _ _ _ _ _ _ (by decide), pk_us, nI_1]
          · have hb2 := (h.cap b hb).ext (s2 := z_lnch M.2.1 sn c (nI e) d sl cr g) (fun j hj => lo j (by omega) (by omega)) hb
            unfold Cap at hb2 ⊢
            rw [g1 1 (by decide), show ∀ j, cF (sG (k_lsets G sn c (nI e) d sl cr g) 4 (G.1 4 + 1)) b j = cF G b j from fun j => by rw [cF_sG (by decide)]; rfl, show ∀ j, cF (sG (k_lsets G sn c (nI e) d sl cr g) 4 (G.1 4 + 1)) b j = cF G b j from fun j => by rw [cF_sG (by decide)]; rfl, show ∀ j, cF (sG (k_lsets G sn c (nI e) d sl cr g) 4 (G.1 4 + 1)) b j = cF G b j from fun j => by rw [cF_sG (by decide)]; rfl]
            exact hb2
          · by_cases q : i = sn
            · subst q
              rw [hF]
              have hp := h.shp i hi
              exact ⟨two_nI c1, ⟨e, he, rfl⟩, nB_of c3.1 c3.2 (by decide), ⟨20, by decide, rfl⟩, nB_of (Int32.le_trans (by decide) c4) ((lt_le (n := 8) (by decide)).mpr c5) (by decide), nB_of (Int32.le_trans (by decide) c6) ((lt_le (n := 40) (by decide)).mpr c7) (by decide), nB_of c8 ((lt_le (n := 9) (by decide)).mpr c9) (by decide), Or.inl fr.2.1, hp.2.2.2.2.2.2.2.2⟩
            · rw [hFo i q]
              have hp := h.shp i hi
              exact ⟨hp.1, hp.2.1, hp.2.2.1, hp.2.2.2.1, hp.2.2.2.2.1, hp.2.2.2.2.2.1, hp.2.2.2.2.2.2.1, hp.2.2.2.2.2.2.2.1.elim (fun z => Or.inl z) (fun z => Or.inr (z.mono (by omega))), hp.2.2.2.2.2.2.2.2⟩
          · by_cases q : i = sn
            · subst q
              rw [hF]
              exact ⟨v0, v1, v2, v3, v4, v5, v6, v7.trans (if_pos fr.2.1).symm, Or.inl ⟨fr.2.2.1, v8⟩, Or.inl ⟨fr.2.2.2.1, v9⟩, v10.trans fr.2.2.2.2.symm⟩
            · rw [hFo i q]
              exact (h.shr i (by omega)).ext (fun k hk => z_lnch_ne _ q _ _ _ _ _ _ hk)
          · rw [hFo i (by omega)]
            exact h.fsh i (by omega) h2
          · by_cases q : i = sn
            · subst q; rw [v7]; exact Or.inl (by decide)
            · rw [z_lnch_ne _ q _ _ _ _ _ _ (by decide)]; exact h.wok i hi
        exact SIM.ok h2 (fun j hj => z_lnch_hi _ hs _ _ _ _ _ _ hj) rfl (nI_pos' (by omega)) m
    · rw [if_neg f, if_neg f]
      exact SIM.err h (by decide) m
  · rw [if_neg q, if_neg (show ¬ ((0 ≤ c ∧ c ≤ 1) ∧ (0 ≤ x ∧ x ≤ 80) ∧ (0 ≤ d ∧ d ≤ 5) ∧ (1 ≤ sl ∧ sl ≤ 8) ∧ (1 ≤ cr ∧ cr ≤ 40) ∧ 0 ≤ g ∧ g ≤ 9) from fun ⟨z1, z2, z3, z4, z5, z6⟩ => q ⟨(two_r c).mpr z1, (hex_r x).mpr z2, (six_r d).mpr z3, z4.1, z4.2, z5.1, z5.2, z6⟩)]
    exact SIM.err h (by decide) m
theorem RGd.grap (h : RGd T sn dn G s) {i j : Nat} (hi : i < sn) (hj : j < sn) : RGd T sn dn (k_gset G i j) (z_gr s i j) := by
  have hn := h.n
  have one : ∀ (G : Gm) (s : Nat → Int32), RGd T sn dn G s → ∀ a b, a < sn → b < sn → RGd T sn dn (sF G a 8 (nI b)) (px s a 7 (nI b)) := fun G s h a b ha hb => by
    have hp := h.shp a (by omega)
    have hr := h.shr a ha
    have e : ∀ l, l < 11 → l ≠ 7 → gx (px s a 7 (nI b)) a l = gx s a l := fun l h1 h2 => gx_px (by decide) h1 h2
    refine h.put (Nat.le_refl T) ha (by decide) (by decide) (fun _ _ _ => rfl) ⟨hp.1, hp.2.1, hp.2.2.1, hp.2.2.2.1, hp.2.2.2.2.1, hp.2.2.2.2.2.1, hp.2.2.2.2.2.2.1, Or.inr ⟨b, hb, rfl⟩, hp.2.2.2.2.2.2.2.2⟩ ⟨?_, ?_, ?_, ?_, ?_, ?_, ?_, ?_, ?_, ?_, ?_⟩
    · rw [e 0 (by decide) (by decide)]; exact hr.1
    · rw [e 1 (by decide) (by decide)]; exact hr.2.1
    · rw [e 2 (by decide) (by decide)]; exact hr.2.2.1
    · rw [e 3 (by decide) (by decide)]; exact hr.2.2.2.1
    · rw [e 4 (by decide) (by decide)]; exact hr.2.2.2.2.1
    · rw [e 5 (by decide) (by decide)]; exact hr.2.2.2.2.2.1
    · rw [e 6 (by decide) (by decide)]; exact hr.2.2.2.2.2.2.1
    · rw [gx_pxe]
      exact (if_neg (show ¬ nI b = -9 from fun z => absurd (nI_pos' (show b < 2 ^ 31 by omega)) (by rw [z]; decide))).symm
    · rw [e 8 (by decide) (by decide)]; exact hr.2.2.2.2.2.2.2.2.1
    · rw [e 9 (by decide) (by decide)]; exact hr.2.2.2.2.2.2.2.2.2.1
    · rw [e 10 (by decide) (by decide)]; exact hr.2.2.2.2.2.2.2.2.2.2
  unfold k_gset z_gr
  exact one _ _ (one _ _ h i j hi hj) j i hj hi
theorem sim_grap (h : RG T sn G M.2.1) (m : Nat) (x y : Int32) : SIM T (k_grap G x y) M m (zw_grap M sn m x y) := by
  have hn := h.n
  unfold k_grap zw_grap
  rcases h.known x with ⟨hx, e⟩ | ⟨i, hi, rfl, e⟩
  · rw [e, if_neg (fun z => hx z.1)]
    exact SIM.err h (by decide) m
  · rw [e]
    rcases h.known y with ⟨hy, e2⟩ | ⟨j, hj, rfl, e2⟩
    · rw [e2, if_neg (fun z => hy z.2.1)]
      exact SIM.err h (by decide) m
    · rw [e2]
      dsimp only
      by_cases hne : nI i = nI j
      · rw [if_pos hne, if_neg (fun z => z.2.2 hne)]
        exact SIM.err h (by decide) m
      · rw [if_neg hne, if_pos (show (0 ≤ nI i ∧ nI i < nI sn) ∧ (0 ≤ nI j ∧ nI j < nI sn) ∧ ¬ nI i = nI j from ⟨in_sn hi hn, in_sn hj hn, hne⟩), nI_clamp (show i < 2 ^ 31 by omega), nI_clamp (show j < 2 ^ 31 by omega)]
        unfold zw_grap2
        have ri := h.shr i hi
        have rj := h.shr j hj
        obtain ⟨a, ha, ea⟩ := (h.shp i (by omega)).2.1
        obtain ⟨b, hb, eb⟩ := (h.shp j (by omega)).2.1
        have im : ¬ G.1 1 = 0 ↔ M.2.1 1 = 1 := by
          rw [h.s1]
          rcases h.mv with e | e
          · rw [e]; exact ⟨fun z => absurd rfl z, fun z => absurd z (by decide)⟩
          · rw [e]; exact ⟨fun _ => rfl, fun _ => by decide⟩
        by_cases q : (G.1 1 = 0 ∨ ¬ 0 < shF G i 4 ∨ ¬ 0 < shF G j 4 ∨ ¬ shF G i 8 = -9 ∨ ¬ shF G j 8 = -9) ∨ shF G i 1 = shF G j 1 ∨ ¬ k_nbr (shF G i 2) (shF G j 2) 6 = true ∨ 2 * shF G i 6 < shF G j 6
        · rw [if_pos q, if_neg]
          · exact SIM.err h (by decide) m
          · rintro ⟨⟨z1, z2, z3, z4, z5⟩, z6, z7, z8⟩
            have f1 := (h.fl hi).mp z2
            have f2 := (h.fl hj).mp z3
            rcases q with (q | q | q | q | q) | q | q | q
            · exact im.mpr z1 q
            · exact q f1
            · exact q f2
            · exact q ((h.w7 hi).mp z4)
            · exact q ((h.w7 hj).mp z5)
            · exact z6 (by rw [ri.1, rj.1]; exact q)
            · rw [h.hx hi f1, h.hx hj f2, ea, eb, nbr_eq ⟨a, ha⟩ ⟨b, hb⟩] at z7
              rw [ea, eb] at q
              exact q z7
            · rw [ri.2.2.2.2.2.1, rj.2.2.2.2.2.1] at z8
              exact Int32.not_le.mpr q z8
        · have q1 : ¬ G.1 1 = 0 := fun z => q (Or.inl (Or.inl z))
          have q2 : 0 < shF G i 4 := Classical.byContradiction (fun z => q (Or.inl (Or.inr (Or.inl z))))
          have q3 : 0 < shF G j 4 := Classical.byContradiction (fun z => q (Or.inl (Or.inr (Or.inr (Or.inl z)))))
          have q4 : shF G i 8 = -9 := Classical.byContradiction (fun z => q (Or.inl (Or.inr (Or.inr (Or.inr (Or.inl z))))))
          have q5 : shF G j 8 = -9 := Classical.byContradiction (fun z => q (Or.inl (Or.inr (Or.inr (Or.inr (Or.inr z))))))
          have q6 : ¬ shF G i 1 = shF G j 1 := fun z => q (Or.inr (Or.inl z))
          have q7 : k_nbr (shF G i 2) (shF G j 2) 6 = true := Classical.byContradiction (fun z => q (Or.inr (Or.inr (Or.inl z))))
          have q8 : ¬ 2 * shF G i 6 < shF G j 6 := fun z => q (Or.inr (Or.inr (Or.inr z)))
          rw [if_neg q, if_pos ⟨⟨im.mp q1, (h.fl hi).mpr q2, (h.fl hj).mpr q3, (h.w7 hi).mpr q4, (h.w7 hj).mpr q5⟩, by rw [ri.1, rj.1]; exact q6, by rw [h.hx hi q2, h.hx hj q3, ea, eb, nbr_eq ⟨a, ha⟩ ⟨b, hb⟩, ← ea, ← eb]; exact q7, by rw [ri.2.2.2.2.2.1, rj.2.2.2.2.2.1]; exact Int32.not_lt.mp q8⟩]
          have h2 := h.grap hi hj
          have pi := h2.shp i (by omega)
          have pj := h2.shp j (by omega)
          have ri2 := h2.shr i hi
          have rj2 := h2.shr j hj
          refine SIM.ok h2 (fun k hk => ?_) ?_ ?_ m
          · unfold z_gr
            rw [px_hi _ (by omega) (by decide) _ hk, px_hi _ (by omega) (by decide) _ hk]
          · rw [ri2.2.2.2.2.2.1, rj2.2.2.2.2.2.1]
          · rw [ri2.2.2.2.2.2.1, rj2.2.2.2.2.2.1]
            obtain ⟨u, hu, eu⟩ := pi.2.2.2.2.2.1
            obtain ⟨w, hw, ew⟩ := pj.2.2.2.2.2.1
            rw [eu, ew, nI_add]
            exact nI_pos' (by omega)
theorem sim_cut (h : RG T sn G M.2.1) (m : Nat) (x : Int32) : SIM T (k_cut G x) M m (zw_cut M sn m x) := by
  have hn := h.n
  unfold k_cut zw_cut
  rcases h.known x with ⟨hx, e⟩ | ⟨i, hi, rfl, e⟩
  · rw [e, if_neg hx]
    exact SIM.err h (by decide) m
  · rw [e, if_pos (in_sn hi hn), nI_clamp (show i < 2 ^ 31 by omega)]
    dsimp only
    unfold zw_cut2
    rcases h.with hi with ⟨e1, e2, e3⟩ | ⟨w, hw, e1, e2, e3⟩
    · rw [e3, e2, if_neg (fun z => absurd z.2.1 (by decide))]
      exact SIM.err h (by decide) m
    · rw [e3, e2, nI_clamp (show w < 2 ^ 31 by omega), h.s1, (h.shr i hi).2.2.2.2.2.1, (h.shr w hw).2.2.2.2.2.1]
      dsimp only
      by_cases q : G.1 1 = 0 ∨ shF G i 6 < shF G w 6
      · rw [if_pos q, if_neg (fun z => q.elim z.1 (fun y => Int32.not_le.mpr y z.2.2))]
        exact SIM.err h (by decide) m
      · rw [if_neg q, if_pos ⟨fun z => q (Or.inl z), nI_pos' (by omega), Int32.not_lt.mp (fun z => q (Or.inr z))⟩]
        exact SIM.ok (h.rel hi) (fun j hj => z_cutf_hi _ (by omega) (h.wok i (by omega)) hj) rfl (nI_pos' (by omega)) m
end TJ
