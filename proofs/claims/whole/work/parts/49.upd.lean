/-! THE TIE: one ship, one captain, the rest of a game is changed -/
theorem shF_sFe (G : Gm) (i : Nat) {j : Nat} (hj : j ≠ 0) (v : Int32) : shF (sF G i j v) i = upd (shF G i) j v := shF_sS (pk_un (fun z => hj z.symm))
theorem shF_sFn (G : Gm) {i a : Nat} (h : a ≠ i) (j : Nat) (v : Int32) : shF (sF G i j v) a = shF G a := shF_sS' h
theorem px_lo (s : Nat → Int32) (i k : Nat) (v : Int32) {j : Nat} (hj : j < 93) : px s i k v j = s j := px_10 s i k v hj
theorem px_hi (s : Nat → Int32) {i k : Nat} (hi : i < 8) (hk : k < 11) (v : Int32) {j : Nat} (hj : 181 ≤ j) : px s i k v j = s j := if_neg (by omega)
section TG
variable {T U sn : Nat} {dn dn2 : Nat → Int32 → Int32} {G : Gm} {s s2 : Nat → Int32}
theorem Shr.wk {F : Nat → Int32} {i : Nat} {d : Int32 → Int32} (h : Shr T F s i d) (hp : Shp T sn F) (hn : sn ≤ 8) : gx s i 7 < 0 ∨ ∃ j, j < 8 ∧ gx s i 7 = nI j := by
  rcases hp.2.2.2.2.2.2.2.1 with e | ⟨j, hj, e⟩
  · exact Or.inl ((h.w7 hp hn).mpr e)
  · refine Or.inr ⟨j, by omega, ?_⟩
    rw [h.2.2.2.2.2.2.2.1, if_neg (by rw [e]; exact fun z => absurd (nI_pos' (show j < 2 ^ 31 by omega)) (by rw [z]; decide)), e]
theorem RGd.ships (h : RGd T sn dn G s) (hU : T ≤ U) {H : Nat → Nat → Int32} (hl : ∀ j, j < 93 → s2 j = s j) (hs : ∀ a, a < sn → Shp U sn (shF (G.1, G.2.1, H) a) ∧ Shr U (shF (G.1, G.2.1, H) a) s2 a (dn2 a)) (ho : ∀ a, sn ≤ a → a < 8 → shF (G.1, G.2.1, H) a = shF G a) (hw : ∀ a, sn ≤ a → a < 8 → gx s2 a 7 = gx s a 7) : RGd U sn dn2 (G.1, G.2.1, H) s2 :=
  ⟨h.n, h.k4, (hl 10 (by decide)).trans h.s10, h.tB.mono (by omega), (hl 0 (by decide)).trans h.s0, h.mv, (hl 1 (by decide)).trans h.s1, h.dB, (hl 2 (by decide)).trans h.s2, h.fB, (hl 3 (by decide)).trans h.s3, (hl 11 (by decide)).trans h.s11, fun c hc => (h.cap c hc).ext (fun j hj => hl j (by omega)) hc, fun j hj => ⟨(h.isl j hj).1, (hl _ (by omega)).trans (h.isl j hj).2⟩, fun i hi => by
    by_cases e : i < sn
    · exact (hs i e).1
    · rw [ho i (by omega) hi]; exact (h.shp i hi).mono hU, fun i hi => (hs i hi).2, fun i h1 h2 => by rw [ho i h1 h2]; exact h.fsh i h1 h2, fun i hi => by
    by_cases e : i < sn
    · exact (hs i e).2.wk (hs i e).1 h.n
    · rw [hw i (by omega) hi]; exact h.wok i hi⟩
theorem RGd.ship (h : RGd T sn dn G s) (hU : T ≤ U) {i : Nat} (hi : i < sn) {F : Nat → Int32} (h0 : F 0 = nI i) (hp : Shp U sn F) (hl : ∀ j, j < 93 → s2 j = s j) (ho : ∀ a, a < 8 → a ≠ i → ∀ k, k < 11 → gx s2 a k = gx s a k) (hd : ∀ a, a < sn → a ≠ i → dn2 a = dn a) (hr : Shr U F s2 i (dn2 i)) : RGd U sn dn2 (sS G i F) s2 := by
  have hn := h.n
  refine h.ships hU hl (fun a ha => ?_) (fun a h1 h2 => shF_sS' (show a ≠ i by omega)) (fun a h1 h2 => ho a h2 (by omega) 7 (by decide))
  by_cases e : a = i
  · subst e
    show Shp U sn (shF (sS G a F) a) ∧ Shr U (shF (sS G a F) a) s2 a (dn2 a)
    rw [shF_sS h0]
    exact ⟨hp, hr⟩
  · show Shp U sn (shF (sS G i F) a) ∧ Shr U (shF (sS G i F) a) s2 a (dn2 a)
    rw [shF_sS' e, hd a ha e]
    exact ⟨(h.shp a (by omega)).mono hU, ((h.shr a ha).mono hU).ext (ho a (by omega) e)⟩
theorem RGd.capt (h : RGd T sn dn G s) {c : Nat} (hc : c < 2) {F : Nat → Int32} (hl : ∀ j, j < 181 → j ≠ 4 + c → j ≠ 6 + c → j ≠ 8 + c → s2 j = s j) (hC : Cap (sC G c F) s2 c) : RGd T sn dn (sC G c F) s2 := by
  have g : ∀ k, k < 6 → (sC G c F).1 k = G.1 k := fun k hk => if_neg (by omega)
  have l : ∀ j, j < 181 → (j < 4 ∨ 10 ≤ j) → s2 j = s j := fun j h1 h2 => hl j h1 (by omega) (by omega) (by omega)
  refine ⟨h.n, (g 4 (by decide)).trans h.k4, (l 10 (by decide) (by omega)).trans h.s10, by rw [g 0 (by decide)]; exact h.tB, by rw [g 0 (by decide), l 0 (by decide) (by omega)]; exact h.s0, by rw [g 1 (by decide)]; exact h.mv, by rw [g 1 (by decide), l 1 (by decide) (by omega)]; exact h.s1, by rw [g 2 (by decide)]; exact h.dB, by rw [g 2 (by decide), l 2 (by decide) (by omega)]; exact h.s2, by rw [g 3 (by decide)]; exact h.fB, by rw [g 3 (by decide), l 3 (by decide) (by omega)]; exact h.s3, by rw [g 5 (by decide), l 11 (by decide) (by omega)]; exact h.s11, fun b hb => ?_, fun j hj => ⟨(h.isl j hj).1, (l _ (by omega) (by omega)).trans (h.isl j hj).2⟩, h.shp, fun i hi => (h.shr i hi).ext (fun k hk => l _ (by have := h.n; omega) (by omega)), h.fsh, fun i hi => by
    rw [show gx s2 i 7 = gx s i 7 from l _ (by omega) (by omega)]; exact h.wok i hi⟩
  by_cases e : b = c
  · subst e; exact hC
  · have q := h.cap b hb
    unfold Cap at q ⊢
    rw [cF_sC' (by decide) e, cF_sC' (by decide) e, cF_sC' (by decide) e, g 1 (by decide), hl (4 + b) (by omega) (by omega) (by omega) (by omega), hl (6 + b) (by omega) (by omega) (by omega) (by omega), hl (8 + b) (by omega) (by omega) (by omega) (by omega)]
    exact q
theorem RGd.glob (h : RGd T sn dn G s) (hU : T ≤ U) {f : Nat → Int32} (hc : ∀ j, 6 ≤ j → j < 12 → f j = G.1 j) (hl : ∀ j, 12 ≤ j → j < 181 → s2 j = s j) (hl2 : ∀ j, 4 ≤ j → j < 11 → s2 j = s j) (h4 : f 4 = G.1 4) (a0 : nB (f 0) (U + 1)) (b0 : s2 0 = f 0) (a1 : f 1 = 0 ∨ f 1 = 1) (b1 : s2 1 = f 1) (a2 : nB (f 2) 6) (b2 : s2 2 = f 2) (a3 : ∃ q, 1 ≤ q ∧ q ≤ 3 ∧ f 3 = nI q) (b3 : s2 3 = f 3) (b5 : s2 11 = f 5) (hm : f 1 = 0 ∨ ∀ c, c < 2 → cF G c 1 = -9) : RGd U sn dn (f, G.2) s2 := by
  refine ⟨h.n, h4.trans h.k4, (hl2 10 (by decide) (by decide)).trans h.s10, a0, b0, a1, b1, a2, b2, a3, b3, b5, fun c hc2 => ?_, fun j hj => ⟨(h.isl j hj).1, (hl _ (by omega) (by omega)).trans (h.isl j hj).2⟩, fun i hi => (h.shp i hi).mono hU, fun i hi => ((h.shr i hi).mono hU).ext (fun k hk => hl _ (by omega) (by have := h.n; omega)), h.fsh, fun i hi => by
    rw [show gx s2 i 7 = gx s i 7 from hl _ (by omega) (by omega)]; exact h.wok i hi⟩
  have e : ∀ j, j < 3 → cF (f, G.2) c j = cF G c j := fun j hj => hc _ (by omega) (by omega)
  obtain ⟨hd, p0, p1, p2, p3, p4, p5, p6⟩ := h.cap c hc2
  refine ⟨hd, p0, p1, (e 0 (by decide)).trans p2, (hl2 _ (by omega) (by omega)).trans p3, by rw [e 2 (by decide)]; exact p4, by rw [e 2 (by decide), hl2 _ (by omega) (by omega)]; exact p5, ?_⟩
  rw [e 1 (by decide), hl2 (6 + c) (by omega) (by omega)]
  rcases p6 with q | ⟨x, q1, q2, q3, q4, _⟩
  · exact Or.inl q
  · rcases hm with z | z
    · exact Or.inr ⟨x, q1, q2, q3, q4, z⟩
    · exact absurd ((z c hc2).symm.trans q2) (fun y => absurd (nI_pos' (show x < 2 ^ 31 by omega)) (by rw [← y]; decide))
theorem RGd.island (h : RGd T sn dn G s) {e : Nat} (he : e < 81) {v : Int32} (hv : v = 0 ∨ v = 1) : RGd T sn dn (sI G (upd G.2.1 e v)) (upd s (12 + e) v) := by
  have l : ∀ j, j ≠ 12 + e → upd s (12 + e) v j = s j := fun j hj => pk_un hj
  refine ⟨h.n, h.k4, (l 10 (by omega)).trans h.s10, h.tB, (l 0 (by omega)).trans h.s0, h.mv, (l 1 (by omega)).trans h.s1, h.dB, (l 2 (by omega)).trans h.s2, h.fB, (l 3 (by omega)).trans h.s3, (l 11 (by omega)).trans h.s11, fun c hc => (h.cap c hc).ext (fun j hj => l j (by omega)) hc, fun j hj => ?_, h.shp, fun i hi => (h.shr i hi).ext (fun k hk => l _ (by omega)), h.fsh, fun i hi => by
    rw [show gx (upd s (12 + e) v) i 7 = gx s i 7 from l _ (by omega)]; exact h.wok i hi⟩
  show (upd G.2.1 e v j = 0 ∨ upd G.2.1 e v j = 1) ∧ upd s (12 + e) v (12 + j) = upd G.2.1 e v j
  by_cases q : j = e
  · subst q; rw [pk_us, pk_us]; exact ⟨hv, rfl⟩
  · rw [pk_un q, pk_un (by omega)]; exact h.isl j hj
end TG
theorem isls_nB (s : Nat → Int32) (h : ∀ j, j < 81 → s (12 + j) = 0 ∨ s (12 + j) = 1) : ∀ n, n ≤ 81 → ∃ k, k ≤ n ∧ kf (fun a j => a + s (12 + j)) 0 0 n = nI k
  | 0, _ => ⟨0, Nat.le_refl _, rfl⟩
  | n + 1, hn => by
    obtain ⟨k, hk, e⟩ := isls_nB s h n (by omega)
    rw [kf_snoc, e, Nat.zero_add]
    rcases h n (by omega) with z | z
    · exact ⟨k, by omega, by rw [z, Int32.add_zero]⟩
    · exact ⟨k + 1, by omega, by rw [z, nI_1]⟩
section TH
variable {T sn : Nat} {G : Gm} {M : Mm}
theorem sim_island (h : RG T sn G M.2.1) (m : Nat) (x v : Int32) : SIM T (k_place G x v) M m (zw_island M sn m x v) := by
  have hn := h.n
  unfold k_place zw_island
  by_cases c : (0 ≤ x ∧ x < 81) ∧ 0 ≤ v ∧ v ≤ 1
  · obtain ⟨e, he, rfl⟩ := i_nI (n := 81) c.1.1 c.1.2 (by decide)
    have q := h.on (x := nI e) (fun z => absurd (nI_pos' (show e < 2 ^ 31 by omega)) (by rw [z]; decide))
    rw [if_pos c, if_pos (show (0 ≤ nI e ∧ nI e ≤ 80) ∧ 0 ≤ v ∧ v ≤ 1 from ⟨(hex_r _).mp c.1, c.2⟩), q, nI_clamp (show e < 2 ^ 31 by omega)]
    by_cases o : z_on M.2.1 sn (nI e) = none
    · rw [if_pos o, if_pos ((z_onv_neg M.2.1 sn hn _).mpr o)]
      have h2 := h.island he ((two_r v).mpr c.2)
      refine SIM.ok h2 (fun j hj => pk_un (by omega)) h2.isls ?_ m
      unfold z_isls
      obtain ⟨k, hk, ek⟩ := isls_nB (upd M.2.1 (12 + e) v) (fun j hj => by rw [(h2.isl j hj).2]; exact (h2.isl j hj).1) 81 (Nat.le_refl _)
      rw [ek]
      exact nI_pos' (by omega)
    · rw [if_neg o, if_neg (fun z => o ((z_onv_neg M.2.1 sn hn _).mp z))]
      exact SIM.err h (by decide) m
  · rw [if_neg c, if_neg (show ¬ ((0 ≤ x ∧ x ≤ 80) ∧ 0 ≤ v ∧ v ≤ 1) from fun z => c ⟨(hex_r x).mpr z.1, z.2⟩)]
    exact SIM.err h (by decide) m
theorem sim_timber (h : RG T sn G M.2.1) (m : Nat) (c t : Int32) : SIM T (k_timber G c t) M m (zw_timber M m c t) := by
  unfold k_timber zw_timber
  by_cases q : (c = 0 ∨ c = 1) ∧ 0 ≤ t ∧ t ≤ 99
  · obtain ⟨k, hk, rfl⟩ := two_nI q.1
    rw [if_pos q, if_pos (show (0 ≤ nI k ∧ nI k ≤ 1) ∧ 0 ≤ t ∧ t ≤ 99 from ⟨(two_r _).mp q.1, q.2⟩), cix_nI hk, nI_clamp (show k < 2 ^ 31 by omega)]
    obtain ⟨hd, p0, p1, p2, p3, p4, p5, p6⟩ := h.cap k hk
    have h2 : RG T sn (sK G k 2 t) (upd M.2.1 (8 + k) t) := by
      refine h.capt hk (fun j hj h4 h6 h8 => pk_un h8) ?_
      refine ⟨hd, p0, p1, ?_, ?_, ?_, ?_, ?_⟩
      · rw [cF_sC (by decide), pk_un (by decide)]; exact p2
      · rw [pk_un (by omega)]; exact p3
      · rw [cF_sC (by decide), pk_us]
        exact nB_of q.2.1 ((lt_le (n := 99) (by decide)).mpr q.2.2) (by decide)
      · rw [cF_sC (by decide), pk_us, pk_us]
      · rw [cF_sC (by decide), pk_un (by decide), pk_un (show 6 + k ≠ 8 + k by omega), show (sC G k (upd (cF G k) 2 t)).1 1 = G.1 1 from if_neg (by omega)]
        exact p6
    refine SIM.ok h2 (fun j hj => pk_un (by omega)) p5.symm ?_ m
    rw [p5]
    exact p4.ge (by decide)
  · rw [if_neg q, if_neg (show ¬ ((0 ≤ c ∧ c ≤ 1) ∧ 0 ≤ t ∧ t ≤ 99) from fun z => q ⟨(two_r c).mpr z.1, z.2⟩)]
    exact SIM.err h (by decide) m
end TH
