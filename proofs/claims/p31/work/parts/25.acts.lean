/-! THE ACTS: what they answer and what holds behind them -/
theorem IvG.ext {sn T : Nat} {G H : Gm} (h : IvG sn T G) (e : ∀ k, k ≠ 5 → k ≠ 1 → H.1 k = G.1 k) (e2 : H.2.1 = G.2.1) : IvG sn T H := by
  obtain ⟨a1, a2, a3, a4, a5, a6, a7, a8⟩ := h
  refine ⟨a1, by rw [e 4 (by decide) (by decide)]; exact a2, by rw [e 0 (by decide) (by decide)]; exact a3, a4, by rw [e 2 (by decide) (by decide)]; exact a5, by rw [e 3 (by decide) (by decide)]; exact a6, fun c hc => ?_, by rw [e2]; exact a8⟩
  have ec : ∀ j, cF H c j = cF G c j := fun j => e _ (by omega) (by omega)
  rw [ec 0, ec 1, ec 2]
  exact a7 c hc
theorem nB_or {v : Int32} (h : nB v 8) {k : Nat} (hk : k < 8) : nB (v ||| nI k) 8 := by
  obtain ⟨b, hb, rfl⟩ := h
  rw [nI_or]
  exact ⟨_, Nat.or_lt_two_pow (n := 3) hb hk, rfl⟩
theorem odd_or : ∀ b : Fin 8, ¬ (nI b.1 ||| 1) &&& 1 = 0 ∧ (nI b.1 ||| 1) - (nI b.1 ||| 1) / 2 * 2 = 1 := by decide +kernel
theorem even_and : ∀ b : Fin 8, ¬ nI b.1 - nI b.1 / 2 * 2 = 1 → nI b.1 &&& 1 = 0 := by decide +kernel
section AV
variable {sn T : Nat} {G : Gm}
theorem Inv.free_i (h : Inv sn T G) {e : Nat} (he : e < 81) (hf : k_free G (nI e) = true) : G.2.1 e = 0 ∧ ∀ j, j < 8 → ¬ shF G j 4 = 0 → ¬ shF G j 2 = nI e := by
  obtain ⟨_, h2, h3⟩ := of_decide_eq_true hf
  refine ⟨(h.isl e he).resolve_right (fun z => h2 (decide_eq_true ⟨nI81 he, by rw [nI_clamp (by omega)]; exact z⟩)), fun j hj h4 z => ?_⟩
  have := h.on_s hj h4
  rw [z, h3] at this
  cases this
theorem Inv.free_c (h : Inv sn T G) {e : Nat} (he : e < 81) : k_cont G (nI e) = -9 ↔ k_free G (nI e) = true := by
  unfold k_cont k_free
  by_cases c : k_isl G (nI e) = true
  · rw [if_pos c, decide_eq_true_eq]
    exact ⟨fun z => absurd z (by decide), fun z => absurd c z.2.1⟩
  · rw [if_neg c, decide_eq_true_eq]
    cases q : k_on G (nI e) with
    | none => exact ⟨fun _ => ⟨nI81 he, c, rfl⟩, fun _ => rfl⟩
    | some j =>
      have hj := (on_h q).1
      exact ⟨fun z => absurd z (nI9 (a := j) (by omega)), fun z => by cases z.2.2⟩
/-! sailing -/
theorem Inv.s11v (h : Inv sn T G) {u : Nat} (hu : u < 8) : ∃ b : Fin 8, shF G u 11 = nI b.1 := by
  obtain ⟨b, hb, e⟩ := h.s11 hu
  exact ⟨⟨b, hb⟩, e⟩
theorem Inv.sail (h : Inv sn T G) (hm : G.1 1 = 1) {u e : Nat} (hu : u < sn) (he : e < 81) (hp : wp G u e ≠ 0) (hd : ¬ shF G u 11 - shF G u 11 / 2 * 2 = 1) : ∃ H, k_sail G (nI u) (nI (wp G u e)) = (nI e, H) ∧ Inv sn T H ∧ H.1 = G.1 ∧ ¬ shF H u 4 = 0 ∧ shF H u 2 = nI e ∧ shF H u 3 = nI (bhead (WB G u) e) ∧ shF H u 11 - shF H u 11 / 2 * 2 = 1 ∧ k_sail H (nI u) (nI (wp G u e)) = (-2, H) ∧ ¬ shF G u 4 = 0 ∧ ¬ shF G u 2 = nI e := by
  have hn := h.n
  have hu8 : u < 8 := by omega
  obtain ⟨m, hmm, em, f1, f2, f3, f4, f5, f6, f7⟩ := h.wpf hu8 he hp
  obtain ⟨b, eb⟩ := h.s11v hu8
  have hnd : 0 < nd (wp G u e) := by rw [nd_s hp]; omega
  have hfl : ¬ shF G u 4 = 0 := fun z => by
    have z0 : k_now G u = 0 := if_pos (Or.inl (by rw [z]; decide))
    have := (nI_eq (b := 0) (by omega) (by decide)).mp (em.symm.trans z0)
    omega
  have hpok : k_pok (nI (wp G u e)) = true := decide_eq_true ⟨⟨(nI_ltI (a := 0) (by decide) (by omega)).mpr (by omega), (nI_leI (b := 999999) (by omega) (by decide)).mpr (by omega)⟩, by rw [nI_clamp (by omega)]; exact f3⟩
  have hev : shF G u 11 &&& 1 = 0 := by rw [eb] at hd ⊢; exact even_and b hd
  obtain ⟨i1, i2⟩ := h.free_i he f5
  have key : k_sail G (nI u) (nI (wp G u e)) = (nI e, sF (sF (sF G u 2 (nI e)) u 3 (nI (bhead (WB G u) e))) u 11 (shF (sF (sF G u 2 (nI e)) u 3 (nI (bhead (WB G u) e))) u 11 ||| 1)) := by
    unfold k_sail
    rw [h.kn hu]
    dsimp only
    rw [if_pos hpok, nI_clamp (show wp G u e < 2 ^ 31 by omega), if_neg (fun z => ?_), f4]
    · rfl
    · rcases z with z | z | z | z
      · rw [hm] at z; exact absurd z (by decide)
      · exact z ((h.fl hu8).mpr hfl)
      · exact z hev
      · rw [em] at z
        have := (nI_ltI (by omega) (by omega)).mp z
        omega
  generalize hH : sF (sF (sF G u 2 (nI e)) u 3 (nI (bhead (WB G u) e))) u 11 (shF (sF (sF G u 2 (nI e)) u 3 (nI (bhead (WB G u) e))) u 11 ||| 1) = H at key
  have hk : ∀ a k, shF H a k = if a = u ∧ k = 11 then shF G u 11 ||| 1 else if a = u ∧ k = 3 then nI (bhead (WB G u) e) else if a = u ∧ k = 2 then nI e else shF G a k := fun a k => by
    rw [← hH, shv_11, shv_3, shv_2, shv_3, shv_2, if_neg (show ¬ (u = u ∧ 11 = 3) from fun z => absurd z.2 (by decide)), if_neg (show ¬ (u = u ∧ 11 = 2) from fun z => absurd z.2 (by decide))]
  have ho : ∀ a k, k ≠ 11 → k ≠ 3 → k ≠ 2 → shF H a k = shF G a k := fun a k k1 k2 k3 => by
    rw [hk, if_neg (fun z => k1 z.2), if_neg (fun z => k2 z.2), if_neg (fun z => k3 z.2)]
  have ha : ∀ a k, a ≠ u → shF H a k = shF G a k := fun a k k1 => by
    rw [hk, if_neg (fun z => k1 z.1), if_neg (fun z => k1 z.1), if_neg (fun z => k1 z.1)]
  have e2 : shF H u 2 = nI e := by rw [hk, if_neg (fun z => absurd z.2 (by decide)), if_neg (fun z => absurd z.2 (by decide)), if_pos ⟨rfl, rfl⟩]
  have e3 : shF H u 3 = nI (bhead (WB G u) e) := by rw [hk, if_neg (fun z => absurd z.2 (by decide)), if_pos ⟨rfl, rfl⟩]
  have e11 : shF H u 11 = shF G u 11 ||| 1 := by rw [hk, if_pos ⟨rfl, rfl⟩]
  have e4 : ∀ a, shF H a 4 = shF G a 4 := fun a => ho a 4 (by decide) (by decide) (by decide)
  have e8 : ∀ a, shF H a 8 = shF G a 8 := fun a => ho a 8 (by decide) (by decide) (by decide)
  have e1 : ∀ a, shF H a 1 = shF G a 1 := fun a => ho a 1 (by decide) (by decide) (by decide)
  have g1 : H.1 = G.1 := by rw [← hH]; rfl
  have g2 : H.2.1 = G.2.1 := by rw [← hH]; rfl
  have hI : Inv sn T H := by
    refine ⟨h.1.ext (fun k _ _ => by rw [g1]) g2, ⟨fun a ha8 => ?_, fun a s1 s2 => by rw [e4, e8]; exact h.ub s1 s2⟩, ⟨fun a c a8 c8 hac n1 n2 => ?_, fun a x a8 hx n1 n2 => ?_⟩, fun a a8 => ?_⟩
    · by_cases c : a = u
      · subst c
        have hs := h.sh ha8
        unfold Sh
        rw [e1, e2, e3, e4, ho a 5 (by decide) (by decide) (by decide), ho a 6 (by decide) (by decide) (by decide), ho a 7 (by decide) (by decide) (by decide), e11]
        exact ⟨hs.1, ⟨e, he, rfl⟩, ⟨_, f7, rfl⟩, hs.2.2.2.1, hs.2.2.2.2.1, hs.2.2.2.2.2.1, hs.2.2.2.2.2.2.1, nB_or hs.2.2.2.2.2.2.2 (k := 1) (by decide)⟩
      · unfold Sh
        rw [ha a 1 c, ha a 2 c, ha a 3 c, ha a 4 c, ha a 5 c, ha a 6 c, ha a 7 c, ha a 11 c]
        exact h.sh ha8
    · rw [e4] at n1 n2
      by_cases c1 : a = u
      · by_cases c2 : c = u
        · exact absurd (c1.trans c2.symm) hac
        · rw [c1, e2, ha c 2 c2]
          exact fun z => i2 c c8 n2 z.symm
      · by_cases c2 : c = u
        · rw [c2, e2, ha a 2 c1]
          exact i2 a a8 n1
        · rw [ha a 2 c1, ha c 2 c2]
          exact h.px a8 c8 hac n1 n2
    · rw [e4] at n1
      rw [g2]
      by_cases c1 : a = u
      · rw [c1, e2] at n2
        rw [← (nI_eq (by omega) (by omega)).mp n2]
        exact i1
      · rw [ha a 2 c1] at n2
        exact h.pxi a8 hx n1 n2
    · rcases h.pr a8 with q | ⟨j, q1, q2, q3, q4, q5⟩
      · exact Or.inl (by rw [e8]; exact q)
      · exact Or.inr ⟨j, q1, by rw [e8]; exact q2, by rw [e8]; exact q3, by rw [e1, e1]; exact q4, by rw [e4]; exact q5⟩
  refine ⟨H, key, hI, g1, by rw [e4]; exact hfl, e2, e3, by rw [e11, eb]; exact (odd_or b).2, ?_, hfl, f6⟩
  unfold k_sail
  rw [hI.kn hu]
  dsimp only
  rw [if_pos hpok, if_pos (Or.inr (Or.inr (Or.inl (by rw [e11, eb]; exact (odd_or b).1))))]
/-! being cut loose -/
def P0 (sn : Nat) (G : Gm) : Prop := ∀ i, i < 8 → shF G i 8 = -9 ∨ ∃ j, j < sn ∧ shF G i 8 = nI j ∧ shF G j 8 = nI i
theorem kn_of {G : Gm} {sn : Nat} (hn : sn ≤ 8) (k4 : G.1 4 = nI sn) {i : Nat} (hi : i < sn) : k_known G (nI i) = some i := by
  have e : k_val G (nI i) = true := decide_eq_true ⟨nI_pos' (by omega), by rw [k4]; exact (nI_ltI (by omega) (by omega)).mpr hi, (nI_ltI (b := 8) (by omega) (by decide)).mpr (by omega)⟩
  rw [k_known, if_pos e, nI_clamp (by omega)]
theorem rel_f {G : Gm} {v : Nat} (hn : sn ≤ 8) (k4 : G.1 4 = nI sn) (h0 : P0 sn G) (hv : v < 8) : (∀ a, a < 8 → ∀ k, shF (k_rel G v) a k = if k = 8 ∧ (a = v ∨ shF G a 8 = nI v) then -9 else shF G a k) ∧ (k_rel G v).1 = G.1 ∧ (k_rel G v).2.1 = G.2.1 := by
  rcases h0 v hv with e | ⟨j, hj, ej, ev⟩
  · have er : k_rel G v = sF G v 8 (-9) := by unfold k_rel; rw [e, kn_m9]
    rw [er]
    refine ⟨fun a ha k => ?_, rfl, rfl⟩
    rw [shv_8]
    by_cases c : k = 8
    · by_cases c2 : a = v
      · rw [if_pos ⟨c2, c⟩, if_pos ⟨c, Or.inl c2⟩]
      · have c3 : ¬ shF G a 8 = nI v := fun z => by
          rcases h0 a ha with q | ⟨x, _, q1, q2⟩
          · exact nI9 (a := v) (by omega) (z.symm.trans q)
          · have : v = x := (nI_eq (by omega) (by omega)).mp (z.symm.trans q1)
            rw [← this, e] at q2
            exact nI9 (a := a) (by omega) q2.symm
        rw [if_neg (fun z => c2 z.1), if_neg (fun z => z.2.elim c2 c3)]
    · rw [if_neg (fun z => c z.2), if_neg (fun z => c z.1)]
  · have er : k_rel G v = sF (sF G j 8 (-9)) v 8 (-9) := by unfold k_rel; rw [ej, kn_of hn k4 hj]
    rw [er]
    refine ⟨fun a ha k => ?_, rfl, rfl⟩
    rw [shv_8, shv_8]
    by_cases c : k = 8
    · by_cases c2 : a = v
      · rw [if_pos ⟨c2, c⟩, if_pos ⟨c, Or.inl c2⟩]
      · rw [if_neg (fun z => c2 z.1)]
        by_cases c3 : a = j
        · rw [if_pos ⟨c3, c⟩, if_pos ⟨c, Or.inr (by rw [c3]; exact ev)⟩]
        · have c4 : ¬ shF G a 8 = nI v := fun z => by
            rcases h0 a ha with q | ⟨x, _, q1, q2⟩
            · exact nI9 (a := v) (by omega) (z.symm.trans q)
            · have : v = x := (nI_eq (by omega) (by omega)).mp (z.symm.trans q1)
              rw [← this, ej] at q2
              exact c3 ((nI_eq (by omega) (by omega)).mp q2).symm
          rw [if_neg (fun z => c3 z.1), if_neg (fun z => z.2.elim c2 c4)]
    · rw [if_neg (fun z => c z.2), if_neg (fun z => c z.2), if_neg (fun z => c z.1)]
theorem Inv.p0 (h : Inv sn T G) : P0 sn G := fun i hi => (h.pr hi).elim Or.inl (fun ⟨j, a, b, c, _⟩ => Or.inr ⟨j, a, b, c⟩)
/-- who is grappled still, when v and the other one are not -/
theorem IvP_rel (h : Inv sn T G) {H : Gm} {v : Nat} (hv : v < 8) (e8 : ∀ a, a < 8 → shF H a 8 = if a = v ∨ shF G a 8 = nI v then -9 else shF G a 8) (e1 : ∀ a, a < 8 → a ≠ v → ¬ shF G a 8 = nI v → shF H a 1 = shF G a 1) (e4 : ∀ a, a < 8 → a ≠ v → shF H a 4 = shF G a 4) : IvP sn H := fun i hi => by
  have hn := h.n
  rcases h.pr hi with q | ⟨j, q1, q2, q3, q4, q5⟩
  · left
    rw [e8 i hi]
    split
    · rfl
    · exact q
  · by_cases c : i = v ∨ shF G i 8 = nI v
    · left; rw [e8 i hi, if_pos c]
    · right
      have c1 : i ≠ v := fun z => c (Or.inl z)
      have c2 : j ≠ v := fun z => c (Or.inr (by rw [q2, z]))
      have c3 : ¬ shF G j 8 = nI v := fun z => c1 ((nI_eq (by omega) (by omega)).mp (q3.symm.trans z))
      refine ⟨j, q1, by rw [e8 i hi, if_neg c]; exact q2, by rw [e8 j (by omega), if_neg (fun z => z.elim c2 c3)]; exact q3, ?_, by rw [e4 i hi c1]; exact q5⟩
      rw [e1 j (by omega) c2 c3, e1 i hi c1 (fun z => c (Or.inr z))]
      exact q4
theorem Inv.rel (h : Inv sn T G) {v : Nat} (hv : v < 8) : Inv sn T (k_rel G v) ∧ (k_rel G v).1 = G.1 ∧ ∀ a, a < 8 → ∀ k, k ≠ 8 → shF (k_rel G v) a k = shF G a k := by
  obtain ⟨r1, r2, r3⟩ := rel_f h.n h.k4 h.p0 hv
  have ro : ∀ a, a < 8 → ∀ k, k ≠ 8 → shF (k_rel G v) a k = shF G a k := fun a ha k hk => by rw [r1 a ha, if_neg (fun z => hk z.1)]
  refine ⟨⟨h.1.ext (fun k _ _ => by rw [r2]) r3, ⟨fun a a8 => ?_, fun a s1 s2 => ⟨by rw [ro a s2 4 (by decide)]; exact (h.ub s1 s2).1, ?_⟩⟩, ⟨fun a c a8 c8 hac n1 n2 => ?_, fun a x a8 hx n1 n2 => ?_⟩, IvP_rel h hv (fun a a8 => ?_) (fun a a8 _ _ => ro a a8 1 (by decide)) (fun a a8 _ => ro a a8 4 (by decide))⟩, r2, ro⟩
  · unfold Sh
    rw [ro a a8 1 (by decide), ro a a8 2 (by decide), ro a a8 3 (by decide), ro a a8 4 (by decide), ro a a8 5 (by decide), ro a a8 6 (by decide), ro a a8 7 (by decide), ro a a8 11 (by decide)]
    exact h.sh a8
  · rw [r1 a s2]
    split
    · rfl
    · exact (h.ub s1 s2).2
  · rw [ro a a8 4 (by decide)] at n1
    rw [ro c c8 4 (by decide)] at n2
    rw [ro a a8 2 (by decide), ro c c8 2 (by decide)]
    exact h.px a8 c8 hac n1 n2
  · rw [ro a a8 4 (by decide)] at n1
    rw [ro a a8 2 (by decide)] at n2
    rw [r3]
    exact h.pxi a8 hx n1 n2
  · rw [r1 a a8]
    by_cases c : a = v ∨ shF G a 8 = nI v
    · rw [if_pos ⟨rfl, c⟩, if_pos c]
    · rw [if_neg (fun z => c z.2), if_neg c]
end AV
