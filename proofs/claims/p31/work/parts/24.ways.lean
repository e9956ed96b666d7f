/-! WAYS: what a way that is told does when it is sailed -/
def SQ (B B2 : Bm) : Prop := B.1 = B2.1 ∧ B.2.2.1 = B2.2.2.1 ∧ B.2.2.2 = B2.2.2.2 ∧ ∀ i, i < B.2.2.2 → B.2.1 i = B2.2.1 i
theorem SQ.note {B B2 : Bm} (h : SQ B B2) (x : Int32) (d p : Nat) : SQ (bnote B x d p) (bnote B2 x d p) := by
  obtain ⟨a, q, c, n⟩ := B
  obtain ⟨a2, q2, c2, n2⟩ := B2
  obtain ⟨h1, h2, h3, h4⟩ := h
  dsimp only at h1 h2 h3 h4
  subst h1; subst h2; subst h3
  unfold bnote
  dsimp only
  split
  · split
    · split
      · refine ⟨rfl, rfl, rfl, fun i hi => ?_⟩
        show va_up q n _ i = va_up q2 n _ i
        unfold va_up
        split
        · rfl
        · exact h4 i (by have : i < n + 1 := hi; omega)
      · exact ⟨rfl, rfl, rfl, h4⟩
    · exact ⟨rfl, rfl, rfl, h4⟩
  · exact ⟨rfl, rfl, rfl, h4⟩
theorem SQ.step {B B2 : Bm} (h : SQ B B2) {i : Nat} (hi : i < B.2.2.2) (G : Gm) (u : Nat) (mo : Int32) : SQ (bstep B G u mo i) (bstep B2 G u mo i) := by
  have e1 : B.2.1 i = B2.2.1 i := h.2.2.2 i hi
  have e2 : bat B i = bat B2 i := by unfold bat; rw [e1, h.1]
  unfold bstep
  rw [e2, e1]
  split
  · exact ((h.note _ _ _).note _ _ _).note _ _ _
  · exact h
theorem SQ.exp {G : Gm} {u : Nat} {mo : Int32} : ∀ (n i : Nat) (B B2 : Bm), SQ B B2 → SQ (bexp G u mo n i B) (bexp G u mo n i B2)
  | 0, i, B, B2, h => h
  | n + 1, i, B, B2, h => by
    rw [bexp_s, bexp_s, ← h.2.2.1]
    split
    · rename_i hi
      exact SQ.exp n (i + 1) _ _ (h.step hi G u mo)
    · exact h
theorem bway_q (G : Gm) (u d : Nat) (mo : Int32) (Q Q2 : Nat → Nat) : SQ (bway G u d mo Q) (bway G u d mo Q2) := SQ.exp _ _ _ _ (SQ.note (show SQ (b0 Q) (b0 Q2) from ⟨rfl, rfl, rfl, fun i hi => absurd hi (Nat.not_lt_zero i)⟩) _ _ _)
theorem SQ.best {B B2 : Bm} (h : SQ B B2) (x : Nat) : bbest B x = bbest B2 x := by unfold bbest; rw [h.1, h.2.1]
theorem SQ.head {B B2 : Bm} (h : SQ B B2) (x : Nat) : bhead B x = bhead B2 x := by unfold bhead; rw [h.2.1]
theorem SQ.tell {B B2 : Bm} (h : SQ B B2) (x : Nat) (w : Int32) : btell B x w = btell B2 x w := by unfold btell; rw [h.best, h.head]
theorem SQ.reach {B B2 : Bm} (h : SQ B B2) : ∀ x, breach B x = breach B2 x
  | 0 => rfl
  | x + 1 => by
    show breach B x + (if 0 < bbest B x then 1 else 0) = breach B2 x + (if 0 < bbest B2 x then 1 else 0)
    rw [h.reach x, h.best]
/-! the steps of a path -/
theorem go_snoc (G : Gm) (u : Nat) {g : Nat} (hg : g < 10) : ∀ (n p : Nat) (x d : Int32), k_go G u (p * 10 + g) (n + 1) x d = (k_go G u p n x d).bind (fun q => if (if nI g = 1 then k_ahead G u q.1 (k_turn q.2 (nI g)) else q.1) = -9 then none else some (if nI g = 1 then k_ahead G u q.1 (k_turn q.2 (nI g)) else q.1, k_turn q.2 (nI g)))
  | 0, p, x, d => by
    rw [k_go_s, show (p * 10 + g) / 10 ^ 0 % 10 = g by rw [Nat.pow_zero, Nat.div_one]; omega]
    rfl
  | n + 1, p, x, d => by
    have e : (p * 10 + g) / 10 ^ (n + 1) % 10 = p / 10 ^ n % 10 := by
      rw [Nat.pow_succ, Nat.mul_comm (10 ^ n) 10, ← Nat.div_div_eq_div_mul, show (p * 10 + g) / 10 = p by omega]
    rw [k_go_s, e, k_go_s G u p n x d]
    by_cases c : (if nI (p / 10 ^ n % 10) = 1 then k_ahead G u x (k_turn d (nI (p / 10 ^ n % 10))) else x) = -9
    · rw [if_pos c, if_pos c]; rfl
    · rw [if_neg c, if_neg c]
      exact go_snoc G u hg n p _ _
theorem nd_c {p g : Nat} (h1 : 1 ≤ g) (h3 : g ≤ 3) : nd (p * 10 + g) = nd p + 1 := by
  rw [nd_s (show p * 10 + g ≠ 0 by omega), show (p * 10 + g) / 10 = p by omega]
theorem dg_c {p g : Nat} (h1 : 1 ≤ g) (h3 : g ≤ 3) (h : dg p = true) : dg (p * 10 + g) = true := by
  rw [dg_s (show p * 10 + g ≠ 0 by omega), show (p * 10 + g) / 10 = p by omega, show (p * 10 + g) % 10 = g by omega, h, decide_eq_true h1, decide_eq_true h3]; rfl
theorem ahead_ok {G : Gm} {u x0 e : Nat} {x d : Int32} (he : e < 81) (h : k_ahead G u x d = nI e) (hx : shF G u 2 = nI x0) (h0 : x0 < 81) : e = x0 ∨ k_free G (nI e) = true := by
  unfold k_ahead at h
  split at h
  · rename_i c
    rw [h] at c
    rcases c with c | c
    · exact Or.inl ((nI_eq (by omega) (by omega)).mp (c.1.trans hx))
    · exact Or.inr c
  · exact absurd h.symm (nI9 (by omega))
def BJ (G : Gm) (u x0 d0 m : Nat) (B : Bm) : Prop := Bok B ∧ (∀ q p, B.1 q = some p → q < 486 ∧ dg p = true ∧ nd p ≤ m ∧ k_go G u p (nd p) (nI x0) (nI d0) = some (nI (q / 6), nI (q % 6)) ∧ (q / 6 = x0 ∨ k_free G (nI (q / 6)) = true)) ∧ B.2.2.1 x0 = some (x0 * 6 + d0) ∧ B.1 (x0 * 6 + d0) = some 0
section BJS
variable {G : Gm} {u x0 d0 m : Nat} {B : Bm}
theorem BJ.note (h : BJ G u x0 d0 m B) {x : Int32} {d p : Nat} (hd : d < 6) (hp : p < 1000000) (hj : ∀ e, e < 81 → x = nI e → dg p = true ∧ nd p ≤ m ∧ k_go G u p (nd p) (nI x0) (nI d0) = some (nI e, nI d) ∧ (e = x0 ∨ k_free G (nI e) = true)) : BJ G u x0 d0 m (bnote B x d p) := by
  refine ⟨bnote_ok h.1 hd hp, ?_⟩
  unfold bnote
  by_cases c1 : 0 ≤ x ∧ x < 81
  · rw [if_pos c1]
    by_cases c2 : B.2.2.2 < 486
    · rw [if_pos c2]
      by_cases c3 : B.1 (x.toNatClampNeg * 6 + d) = none
      · rw [if_pos c3]
        obtain ⟨e, he, ee⟩ := i_nI c1.1 (show x < nI 81 from c1.2) (by decide)
        rw [ee, nI_clamp (by omega)] at c3 ⊢
        obtain ⟨j1, j2, j3, j4⟩ := hj e he ee
        refine ⟨fun q p2 hq => ?_, ?_, ?_⟩
        · have hq : va_up B.1 (e * 6 + d) (some p) q = some p2 := hq
          unfold va_up at hq
          by_cases c : q = e * 6 + d
          · rw [if_pos c] at hq; cases hq
            rw [c, show (e * 6 + d) / 6 = e by omega, show (e * 6 + d) % 6 = d by omega]
            exact ⟨by omega, j1, j2, j3, j4⟩
          · rw [if_neg c] at hq; exact h.2.1 q p2 hq
        · show (if B.2.2.1 e = none then va_up B.2.2.1 e (some (e * 6 + d)) else B.2.2.1) x0 = _
          by_cases c4 : B.2.2.1 e = none
          · rw [if_pos c4]; unfold va_up
            rw [if_neg (fun z => by rw [← z, h.2.2.1] at c4; cases c4)]
            exact h.2.2.1
          · rw [if_neg c4]; exact h.2.2.1
        · show va_up B.1 (e * 6 + d) (some p) (x0 * 6 + d0) = _
          unfold va_up
          rw [if_neg (fun z => by rw [← z, h.2.2.2] at c3; cases c3)]
          exact h.2.2.2
      · rw [if_neg c3]; exact h.2
    · rw [if_neg c2]; exact h.2
  · rw [if_neg c1]; exact h.2
theorem BJ.spread (h : BJ G u x0 d0 m B) (hx : shF G u 2 = nI x0) (h0 : x0 < 81) {pl p : Nat} (hq : B.1 pl = some p) (hl : nd p < m) (hm : m ≤ 6) : BJ G u x0 d0 m (bspread B G u pl p) := by
  obtain ⟨f1, f2, f3, f4, f5⟩ := h.2.1 pl p hq
  have hp : p < 100000 := nd_lt 5 p (by omega)
  have h6 : pl / 6 < 81 := by omega
  have hgo : ∀ g, 1 ≤ g → g ≤ 3 → k_go G u (p * 10 + g) (nd (p * 10 + g)) (nI x0) (nI d0) = if (if nI g = 1 then k_ahead G u (nI (pl / 6)) (k_turn (nI (pl % 6)) (nI g)) else nI (pl / 6)) = -9 then none else some (if nI g = 1 then k_ahead G u (nI (pl / 6)) (k_turn (nI (pl % 6)) (nI g)) else nI (pl / 6), k_turn (nI (pl % 6)) (nI g)) := fun g g1 g3 => by
    rw [nd_c g1 g3, go_snoc G u (by omega), f4]; rfl
  have hturn1 : k_turn (nI (pl % 6)) (nI 1) = nI (pl % 6) := rfl
  unfold bspread
  refine BJ.note (BJ.note (BJ.note h (Nat.mod_lt _ (by decide)) (by omega) (fun e he ee => ?_)) (Nat.mod_lt _ (by decide)) (by omega) (fun e he ee => ?_)) (Nat.mod_lt _ (by decide)) (by omega) (fun e he ee => ?_)
  · refine ⟨dg_c (by decide) (by decide) f2, by rw [nd_c (by decide) (by decide)]; omega, ?_, ahead_ok he ee hx h0⟩
    rw [hgo 1 (by decide) (by decide), if_pos (show nI 1 = 1 from rfl), hturn1, ee, if_neg (nI9 (by omega))]
  · have e2 : pl / 6 = e := (nI_eq (by omega) (by omega)).mp ee
    refine ⟨dg_c (by decide) (by decide) f2, by rw [nd_c (by decide) (by decide)]; omega, ?_, by rw [← e2]; exact f5⟩
    rw [hgo 2 (by decide) (by decide), if_neg (show ¬ nI 2 = 1 by decide), if_neg (nI9 (by omega)), show nI 2 = 2 from rfl, turn_2 _ (Nat.mod_lt _ (by decide)), e2]
  · have e2 : pl / 6 = e := (nI_eq (by omega) (by omega)).mp ee
    refine ⟨dg_c (by decide) (by decide) f2, by rw [nd_c (by decide) (by decide)]; omega, ?_, by rw [← e2]; exact f5⟩
    rw [hgo 3 (by decide) (by decide), if_neg (show ¬ nI 3 = 1 by decide), if_neg (nI9 (by omega)), show nI 3 = 3 from rfl, turn_3 _ (Nat.mod_lt _ (by decide)), e2]
theorem BJ.exp (hx : shF G u 2 = nI x0) (h0 : x0 < 81) (hm : m ≤ 6) : ∀ (n i : Nat) (B : Bm), BJ G u x0 d0 m B → BJ G u x0 d0 m (bexp G u (nI m) n i B)
  | 0, _, _, h => h
  | n + 1, i, B, h => by
    rw [bexp_s]
    split
    · rename_i hi
      refine BJ.exp hx h0 hm n (i + 1) _ ?_
      obtain ⟨g1, g2⟩ := bat_of h.1 hi
      unfold bstep
      split
      · rename_i c
        have hnd : nd (bat B i) ≤ 6 := nd_le 6 _ (bat_lt h.1 i)
        exact h.spread hx h0 g2 ((nI_ltI (by omega) (by omega)).mp c) hm
      · exact h
    · exact h
theorem BJ.start (h0 : x0 < 81) (hd : d0 < 6) (Q : Nat → Nat) : BJ G u x0 d0 m (bnote (b0 Q) (nI x0) d0 0) := by
  refine ⟨bnote_ok (b0_ok Q) hd (by decide), ?_⟩
  have e : bnote (b0 Q) (nI x0) d0 0 = bput (b0 Q) x0 d0 0 := by
    unfold bnote
    rw [if_pos (nI81 h0), if_pos (show (b0 Q).2.2.2 < 486 from (by decide : (0 : Nat) < 486)), nI_clamp (by omega), if_pos (show (b0 Q).1 (x0 * 6 + d0) = none from rfl)]
  rw [e]
  refine ⟨fun q p hq => ?_, ?_, ?_⟩
  · have hq : va_up (fun _ => none) (x0 * 6 + d0) (some 0) q = some p := hq
    unfold va_up at hq
    by_cases c : q = x0 * 6 + d0
    · rw [if_pos c] at hq; cases hq
      rw [c, show (x0 * 6 + d0) / 6 = x0 by omega, show (x0 * 6 + d0) % 6 = d0 by omega, nd_0]
      exact ⟨by omega, dg_0, Nat.zero_le _, rfl, Or.inl rfl⟩
    · rw [if_neg c] at hq; cases hq
  · show (if (b0 Q).2.2.1 x0 = none then va_up (b0 Q).2.2.1 x0 (some (x0 * 6 + d0)) else (b0 Q).2.2.1) x0 = _
    rw [if_pos (show (b0 Q).2.2.1 x0 = none from rfl)]; exact va_up_self _ _ _
  · exact va_up_self _ _ _
end BJS
theorem sf_fin : ∀ d e : Fin 6, ∃ v : Fin 9, k_sf (fun _ => nI d.1) (nI e.1) = nI v.1 := by decide +kernel
section WV
variable {sn T : Nat} {G : Gm}
theorem Inv.nowB (h : Inv sn T G) {i : Nat} (hi : i < 8) : ∃ k, k ≤ 6 ∧ k_now G i = nI k := by
  unfold k_now k_steps
  split
  · exact ⟨0, by decide, rfl⟩
  · obtain ⟨d, hd, ed⟩ := h.s3 hi
    obtain ⟨e, he, ee⟩ := h.dB
    obtain ⟨f, hf1, hf3, ef⟩ := h.fB
    obtain ⟨v, hv⟩ := sf_fin ⟨d, hd⟩ ⟨e, he⟩
    obtain ⟨a, ha, ea⟩ := h.s5 hi
    obtain ⟨b, hb, eb⟩ := h.s6 hi
    have hm : ∃ q, q ≤ 8 ∧ kmin (shF G i 5) (shF G i 6) = nI q := by
      rw [kmin_lt, ea, eb]
      by_cases c : nI a < nI b
      · rw [if_pos c]; exact ⟨a, by omega, rfl⟩
      · rw [if_neg c]
        have : b ≤ a := Nat.le_of_not_lt (fun z => c ((nI_ltI (by omega) (by omega)).mpr z))
        exact ⟨b, by omega, rfl⟩
    obtain ⟨q, hq, eq⟩ := hm
    have hv2 : k_sf (shF G i) (G.1 2) = nI v.1 := by
      rw [ee, ← hv]
      show k_sf (fun _ => shF G i 3) (nI e) = _
      rw [ed]
    rw [hv2, ef, eq, pk_mul, pk_mul, show (32 : Int32) = nI 32 from rfl]
    have h1 : v.1 * f * q ≤ 192 := by
      have hv8 : v.1 ≤ 8 := by have := v.2; omega
      calc v.1 * f * q ≤ 8 * 3 * 8 := Nat.mul_le_mul (Nat.mul_le_mul hv8 hf3) hq
        _ = 192 := rfl
    rw [pk_div (by omega) (by decide) (by decide)]
    exact ⟨_, by omega, rfl⟩
theorem Inv.nw (h : Inv sn T G) : ∀ j, j < 8 → k_now G j ≤ 6 := fun j hj => by
  obtain ⟨q, hq, eq⟩ := h.nowB hj
  rw [eq]
  exact (nI_leI (b := 6) (by omega) (by decide)).mpr hq
theorem Inv.hd (h : Inv sn T G) : ∀ j, j < 8 → hdg G j < 6 ∧ shF G j 3 = nI (hdg G j) := fun j hj => by
  have := (h.s3 hj).v (by decide)
  exact ⟨this.2, this.1⟩
theorem Inv.v2 (h : Inv sn T G) {i : Nat} (hi : i < 8) : shF G i 2 = nI (hv G i 2) ∧ hv G i 2 < 81 := (h.s2 hi).v (by decide)
theorem Inv.xr (h : Inv sn T G) : ∀ i, i < 8 → 0 ≤ shF G i 2 ∧ shF G i 2 < 81 := fun i hi => by
  rw [(h.v2 hi).1]; exact nI81 (h.v2 hi).2
/-- the ways of a ship, whatever lay in the queue -/
def WB (G : Gm) (u : Nat) : Bm := bway G u (hdg G u) (k_now G u) (fun _ => 0)
def wp (G : Gm) (u e : Nat) : Nat := bbest (WB G u) e
theorem Inv.bj (h : Inv sn T G) {u : Nat} (hu : u < 8) : ∃ m, m ≤ 6 ∧ k_now G u = nI m ∧ BJ G u (hv G u 2) (hdg G u) m (WB G u) := by
  obtain ⟨m, hm, em⟩ := h.nowB hu
  refine ⟨m, hm, em, ?_⟩
  unfold WB bway
  rw [em, (h.v2 hu).1]
  exact BJ.exp (h.v2 hu).1 (h.v2 hu).2 hm _ _ _ (BJ.start (h.v2 hu).2 (h.hd u hu).1 _)
theorem Inv.wpf (h : Inv sn T G) {u e : Nat} (hu : u < 8) (he : e < 81) (hp : wp G u e ≠ 0) : ∃ m, m ≤ 6 ∧ k_now G u = nI m ∧ nd (wp G u e) ≤ m ∧ wp G u e < 1000000 ∧ dg (wp G u e) = true ∧ k_go G u (wp G u e) (nd (wp G u e)) (shF G u 2) (shF G u 3) = some (nI e, nI (bhead (WB G u) e)) ∧ k_free G (nI e) = true ∧ ¬ shF G u 2 = nI e ∧ bhead (WB G u) e < 6 := by
  obtain ⟨m, hm, em, hJ⟩ := h.bj hu
  have hlt : wp G u e < 1000000 := bbest_lt hJ.1 e
  cases ha : (WB G u).2.2.1 e with
  | none => exact absurd (bbest_n ha) hp
  | some pl =>
    obtain ⟨g1, g2, p, g3⟩ := hJ.1.2.2.2 e pl ha
    have ew : wp G u e = p := (bbest_s ha).trans (by rw [g3]; rfl)
    obtain ⟨f1, f2, f3, f4, f5⟩ := hJ.2.1 pl p g3
    have hne : ¬ e = hv G u 2 := fun z => by
      rw [z, hJ.2.2.1] at ha
      cases ha
      rw [hJ.2.2.2] at g3
      cases g3
      exact hp ew
    have eh : bhead (WB G u) e = pl % 6 := by unfold bhead; rw [ha]; rfl
    rw [ew] at hlt ⊢
    rw [eh, (h.v2 hu).1, (h.hd u hu).2]
    refine ⟨m, hm, em, f3, hlt, f2, by rw [f4, g2], ?_, fun z => hne ((nI_eq (by have := (h.v2 hu).2; omega) (by omega)).mp z).symm, Nat.mod_lt _ (by decide)⟩
    rcases f5 with z | z
    · exact absurd (g2.symm.trans z) hne
    · rw [← g2]; exact z
theorem Inv.wpz (h : Inv sn T G) {u e : Nat} (hu : u < 8) (he : e < 81) (hz : k_now G u = 0) : wp G u e = 0 := Classical.byContradiction (fun hp => by
  obtain ⟨m, hm, em, h1, _⟩ := h.wpf hu he hp
  have m0 : m = 0 := (nI_eq (b := 0) (by omega) (by decide)).mp (em.symm.trans hz)
  rw [m0, nd_s hp] at h1
  omega)
theorem reach_0 {B : Bm} : ∀ n, (∀ e, e < n → bbest B e = 0) → breach B n = 0
  | 0, _ => rfl
  | n + 1, h => by
    show breach B n + (if 0 < bbest B n then 1 else 0) = 0
    rw [reach_0 n (fun e he => h e (by omega)), h n (Nat.lt_succ_self n)]; rfl
end WV
section WC
variable {sn T : Nat} {C : Cm}
theorem Inv.way_v (h : Inv sn T C.1.1) (Q : Nat → Nat) {u e : Nat} (hu : u < sn) (he : e < 81) {v : Int32} (hv : 0 ≤ v ∧ v ≤ 2) : p_way C Q (nI u) (nI e) v = btell (WB C.1.1 u) e v := by
  unfold p_way
  rw [h.kn hu]
  dsimp only
  rw [if_pos ⟨nI81 he, hv⟩, nI_clamp (by omega)]
  exact (bway_q _ _ _ _ _ _).tell e v
theorem Inv.way_0 (h : Inv sn T C.1.1) (Q : Nat → Nat) {u e : Nat} (hu : u < sn) (he : e < 81) : p_way C Q (nI u) (nI e) 0 = if wp C.1.1 u e = 0 then -9 else nI (wp C.1.1 u e) := by
  rw [h.way_v Q hu he (by decide)]
  unfold btell
  rw [if_pos (show (0 : Int32) = 0 from rfl)]
  rfl
theorem Inv.way_1 (h : Inv sn T C.1.1) (Q : Nat → Nat) {u e : Nat} (hu : u < sn) (he : e < 81) (hp : ¬ wp C.1.1 u e = 0) : p_way C Q (nI u) (nI e) 1 = nI (nd (wp C.1.1 u e)) := by
  rw [h.way_v Q hu he (by decide)]
  unfold btell
  rw [if_neg (show ¬ bbest (WB C.1.1 u) e = 0 from hp), if_neg (by decide), if_pos rfl]
  rfl
theorem Inv.way_2 (h : Inv sn T C.1.1) (Q : Nat → Nat) {u e : Nat} (hu : u < sn) (he : e < 81) (hp : ¬ wp C.1.1 u e = 0) : p_way C Q (nI u) (nI e) 2 = nI (bhead (WB C.1.1 u) e) := by
  rw [h.way_v Q hu he (by decide)]
  unfold btell
  rw [if_neg (show ¬ bbest (WB C.1.1 u) e = 0 from hp), if_neg (by decide), if_neg (by decide)]
theorem Inv.reach_v (h : Inv sn T C.1.1) (Q : Nat → Nat) {u : Nat} (hu : u < sn) : p_reach C Q (nI u) = nI (breach (WB C.1.1 u) 81) := by
  unfold p_reach
  rw [h.kn hu]
  exact congrArg nI ((bway_q _ _ _ _ _ _).reach 81)
theorem Inv.reach_s (h : Inv sn T C.1.1) (Q : Nat → Nat) {u : Nat} (hu : u < sn) (hf : shF C.1.1 u 4 = 0) : p_reach C Q (nI u) = 0 := by
  have hn := h.n
  have hz : k_now C.1.1 u = 0 := if_pos (Or.inl (by rw [hf]; decide))
  rw [h.reach_v Q hu, reach_0 81 (fun e he => h.wpz (by omega) he hz)]; rfl
end WC
