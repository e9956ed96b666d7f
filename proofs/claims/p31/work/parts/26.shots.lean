/-! FIRE, GRAPPLE, CUT, REPAIR: what they answer and what holds behind them -/
theorem IvX.sub {G H : Gm} (h : IvX G) (e4 : ∀ a, a < 8 → ¬ shF H a 4 = 0 → ¬ shF G a 4 = 0) (e2 : ∀ a, a < 8 → ¬ shF H a 4 = 0 → shF H a 2 = shF G a 2) (g2 : H.2.1 = G.2.1) : IvX H := by
  refine ⟨fun a c a8 c8 hac n1 n2 => ?_, fun a x a8 hx n1 n2 => ?_⟩
  · rw [e2 a a8 n1, e2 c c8 n2]
    exact h.1 a c a8 c8 hac (e4 a a8 n1) (e4 c c8 n2)
  · rw [e2 a a8 n1] at n2
    rw [g2]
    exact h.2 a x a8 hx (e4 a a8 n1) n2
theorem kmax_sub {a b : Nat} (ha : a < 2 ^ 30) (hb : b < 2 ^ 30) : kmax 0 (nI a - nI b) = nI (a - b) := by
  unfold kmax
  by_cases c : b ≤ a
  · rw [pk_sub c]
    split
    · rfl
    · rename_i z
      have : a - b = 0 := Classical.byContradiction (fun y => z ((nI_ltI (a := 0) (by decide) (by omega)).mpr (by omega)))
      rw [this]; rfl
  · rw [if_neg (fun z => absurd (Int32.lt_trans z (pk_sneg hb (by omega))) (by decide)), show a - b = 0 by omega]; rfl
theorem nB_sub {v : Int32} {n : Nat} (h : nB v n) (hn : n < 1000) {b : Nat} (hb : b < 1000) : nB (kmax 0 (v - nI b)) n := by
  obtain ⟨a, ha, rfl⟩ := h
  rw [kmax_sub (by omega) (by omega)]
  exact ⟨_, by omega, rfl⟩
def hv_4 (G : Gm) (v : Nat) : Nat := hv G v 4
section FV
variable {sn T : Nat} {G : Gm}
def FH (G : Gm) (v : Nat) (t : Int32) : Gm := sS G v (k_suffer (shF G v) t)
theorem FH_f (G : Gm) (v : Nat) (t : Int32) (a : Nat) : shF (FH G v t) a = if a = v then k_suffer (shF G v) t else shF G a := by
  by_cases c : a = v
  · rw [if_pos c, c]; exact shF_sS rfl
  · rw [if_neg c]; exact shF_sS' c
theorem suf_o (F : Nat → Int32) (t : Int32) {k : Nat} (h4 : k ≠ 4) (h5 : k ≠ 5) (h6 : k ≠ 6) (h7 : k ≠ 7) : k_suffer F t k = F k := by
  unfold k_suffer
  rw [pk_un h7, pk_un h5, pk_un h6, pk_un h4]
theorem suf_4 (F : Nat → Int32) (t : Int32) : k_suffer F t 4 = kmax 0 (F 4 - t) := rfl
theorem FH_o (G : Gm) (v : Nat) (t : Int32) (a : Nat) {k : Nat} (h4 : k ≠ 4) (h5 : k ≠ 5) (h6 : k ≠ 6) (h7 : k ≠ 7) : shF (FH G v t) a k = shF G a k := by
  rw [FH_f]
  split
  · rename_i c; rw [suf_o _ _ h4 h5 h6 h7, c]
  · rfl
theorem Inv.FHs (h : Inv sn T G) {v q : Nat} (hv : v < 8) (hq : q ≤ 27) : ∀ a, a < 8 → Sh (shF (FH G v (nI q)) a) := fun a a8 => by
  rw [FH_f]
  by_cases c : a = v
  · rw [if_pos c]
    have hs := h.sh hv
    unfold Sh
    refine ⟨hs.1, hs.2.1, hs.2.2.1, nB_sub hs.2.2.2.1 (by decide) (by omega), ?_, ?_, ?_, hs.2.2.2.2.2.2.2⟩
    · show nB (kmax 0 (shF G v 5 - nI q / 4)) 9
      rw [show (4 : Int32) = nI 4 from rfl, pk_div (by omega) (by decide) (by decide)]
      exact nB_sub hs.2.2.2.2.1 (by decide) (by omega)
    · show nB (kmax 0 (shF G v 6 - nI q / 3)) 41
      rw [show (3 : Int32) = nI 3 from rfl, pk_div (by omega) (by decide) (by decide)]
      exact nB_sub hs.2.2.2.2.2.1 (by decide) (by omega)
    · show nB (kmax 0 (shF G v 7 - nI q / 6)) 10
      rw [show (6 : Int32) = nI 6 from rfl, pk_div (by omega) (by decide) (by decide)]
      exact nB_sub hs.2.2.2.2.2.2.1 (by decide) (by omega)
  · rw [if_neg c]; exact h.sh a8
theorem Inv.FH4 (h : Inv sn T G) {v q : Nat} (hv : v < 8) (hq : q ≤ 27) : shF (FH G v (nI q)) v 4 = nI (hv_4 G v - q) := by
  rw [FH_f, if_pos rfl, suf_4, (h.v4 hv).1, kmax_sub (by have := (h.v4 hv).2; omega) (by omega)]
  rfl
end FV
section FV2
variable {sn T : Nat} {G : Gm}
def gFR (G : Gm) (v : Nat) (t : Int32) : Gm := if 0 < shF (FH G v t) v 4 then FH G v t else k_rel (FH G v t) v
theorem Inv.FR (h : Inv sn T G) {v q : Nat} (hv : v < 8) (hf : ¬ shF G v 4 = 0) (hq : q ≤ 27) : Inv sn T (gFR G v (nI q)) ∧ (gFR G v (nI q)).1 = G.1 ∧ (∀ a, a < 8 → ∀ k, k ≠ 8 → shF (gFR G v (nI q)) a k = shF (FH G v (nI q)) a k) := by
  have hn := h.n
  have h8 : ∀ a, shF (FH G v (nI q)) a 8 = shF G a 8 := fun a => FH_o _ _ _ _ (by decide) (by decide) (by decide) (by decide)
  have h1 : ∀ a, shF (FH G v (nI q)) a 1 = shF G a 1 := fun a => FH_o _ _ _ _ (by decide) (by decide) (by decide) (by decide)
  have h2 : ∀ a, shF (FH G v (nI q)) a 2 = shF G a 2 := fun a => FH_o _ _ _ _ (by decide) (by decide) (by decide) (by decide)
  have h4 : ∀ a, a ≠ v → shF (FH G v (nI q)) a 4 = shF G a 4 := fun a ha => by rw [FH_f, if_neg ha]
  have n4 : ∀ a, a < 8 → ¬ shF (FH G v (nI q)) a 4 = 0 → ¬ shF G a 4 = 0 := fun a _ z => by
    by_cases c : a = v
    · rw [c]; exact hf
    · rw [h4 a c] at z; exact z
  have hG : IvG sn T (FH G v (nI q)) := h.1.ext (fun k _ _ => rfl) rfl
  have hvs : v < sn := h.lt hv hf
  unfold gFR
  by_cases c : 0 < shF (FH G v (nI q)) v 4
  · rw [if_pos c]
    refine ⟨⟨hG, ⟨h.FHs hv hq, fun a s1 s2 => ⟨?_, by rw [h8]; exact (h.ub s1 s2).2⟩⟩, h.2.2.1.sub n4 (fun a _ _ => h2 a) rfl, fun a a8 => ?_⟩, rfl, fun _ _ _ _ => rfl⟩
    · rw [h4 a (by omega)]; exact (h.ub s1 s2).1
    · rcases h.pr a8 with z | ⟨j, z1, z2, z3, z4, z5⟩
      · exact Or.inl (by rw [h8]; exact z)
      · refine Or.inr ⟨j, z1, by rw [h8]; exact z2, by rw [h8]; exact z3, by rw [h1, h1]; exact z4, ?_⟩
        by_cases e : a = v
        · rw [e]; exact fun y => absurd c (by rw [y]; decide)
        · rw [h4 a e]; exact z5
  · rw [if_neg c]
    have p0 : P0 sn (FH G v (nI q)) := fun i hi => by rw [h8]; exact (h.p0 i hi).elim Or.inl (fun ⟨j, z1, z2, z3⟩ => Or.inr ⟨j, z1, z2, by rw [h8]; exact z3⟩)
    obtain ⟨r1, r2, r3⟩ := rel_f hn hG.2.1 p0 hv
    have ro : ∀ a, a < 8 → ∀ k, k ≠ 8 → shF (k_rel (FH G v (nI q)) v) a k = shF (FH G v (nI q)) a k := fun a ha k hk => by rw [r1 a ha, if_neg (fun z => hk z.1)]
    refine ⟨⟨hG.ext (fun k _ _ => by rw [r2]) r3, ⟨fun a a8 => ?_, fun a s1 s2 => ⟨by rw [ro a s2 4 (by decide), h4 a (by omega)]; exact (h.ub s1 s2).1, ?_⟩⟩, h.2.2.1.sub (fun a a8 z => n4 a a8 (by rw [ro a a8 4 (by decide)] at z; exact z)) (fun a a8 _ => by rw [ro a a8 2 (by decide), h2]) (by rw [r3]; rfl), IvP_rel h hv (fun a a8 => ?_) (fun a a8 _ _ => by rw [ro a a8 1 (by decide), h1]) (fun a a8 z => by rw [ro a a8 4 (by decide), h4 a z])⟩, by rw [r2]; rfl, ro⟩
    · have := h.FHs hv hq a a8
      unfold Sh at this ⊢
      rw [ro a a8 1 (by decide), ro a a8 2 (by decide), ro a a8 3 (by decide), ro a a8 4 (by decide), ro a a8 5 (by decide), ro a a8 6 (by decide), ro a a8 7 (by decide), ro a a8 11 (by decide)]
      exact this
    · rw [r1 a s2, h8]
      split
      · rfl
      · exact (h.ub s1 s2).2
    · rw [r1 a a8, h8]
      by_cases e : a = v ∨ shF G a 8 = nI v
      · rw [if_pos ⟨rfl, e⟩, if_pos e]
      · rw [if_neg (fun z => e z.2), if_neg e]
theorem note_o (F : Nat → Int32) (s t : Int32) {k : Nat} (h9 : k ≠ 9) (h10 : k ≠ 10) (h11 : k ≠ 11) : k_note F s t k = F k := by
  unfold k_note
  split
  · rw [pk_un h11, pk_un h9]
  · rw [pk_un h11, pk_un h10]
theorem note_11 (F : Nat → Int32) (s t : Int32) : k_note F s t 11 = F 11 ||| 2 := by
  unfold k_note
  split <;> rfl
theorem note_r (F : Nat → Int32) (s t : Int32) : (if s = 0 then k_note F s t 9 else k_note F s t 10) = t + 2 := by
  unfold k_note
  by_cases c : s = 0
  · rw [if_pos c, if_pos c]; rfl
  · rw [if_neg c, if_neg c]; rfl
theorem Inv.note (h : Inv sn T G) {u : Nat} (hu : u < 8) (s t : Int32) : Inv sn T (sS G u (k_note (shF G u) s t)) ∧ (∀ a, shF (sS G u (k_note (shF G u) s t)) a = if a = u then k_note (shF G u) s t else shF G a) ∧ ∀ a k, k ≠ 9 → k ≠ 10 → k ≠ 11 → shF (sS G u (k_note (shF G u) s t)) a k = shF G a k := by
  have hf : ∀ a, shF (sS G u (k_note (shF G u) s t)) a = if a = u then k_note (shF G u) s t else shF G a := fun a => by
    by_cases c : a = u
    · rw [if_pos c, c]; exact shF_sS (k_note_0 _ _ _)
    · rw [if_neg c]; exact shF_sS' c
  have ho : ∀ a k, k ≠ 9 → k ≠ 10 → k ≠ 11 → shF (sS G u (k_note (shF G u) s t)) a k = shF G a k := fun a k k1 k2 k3 => by
    rw [hf]
    split
    · rename_i c; rw [note_o _ _ _ k1 k2 k3, c]
    · rfl
  have o1 := fun a => ho a 1 (by decide) (by decide) (by decide)
  have o2 := fun a => ho a 2 (by decide) (by decide) (by decide)
  have o4 := fun a => ho a 4 (by decide) (by decide) (by decide)
  have o8 := fun a => ho a 8 (by decide) (by decide) (by decide)
  refine ⟨⟨h.1.ext (fun k _ _ => rfl) rfl, ⟨fun a a8 => ?_, fun a s1 s2 => by rw [o4, o8]; exact h.ub s1 s2⟩, h.2.2.1.sub (fun a _ z => by rw [o4] at z; exact z) (fun a _ _ => o2 a) rfl, fun a a8 => ?_⟩, hf, ho⟩
  · have hs := h.sh a8
    unfold Sh at hs ⊢
    rw [o1, o2, ho a 3 (by decide) (by decide) (by decide), o4, ho a 5 (by decide) (by decide) (by decide), ho a 6 (by decide) (by decide) (by decide), ho a 7 (by decide) (by decide) (by decide), hf]
    refine ⟨hs.1, hs.2.1, hs.2.2.1, hs.2.2.2.1, hs.2.2.2.2.1, hs.2.2.2.2.2.1, hs.2.2.2.2.2.2.1, ?_⟩
    split
    · rw [note_11]; exact nB_or (h.s11 hu) (k := 2) (by decide)
    · exact hs.2.2.2.2.2.2.2
  · rcases h.pr a8 with z | ⟨j, z1, z2, z3, z4, z5⟩
    · exact Or.inl (by rw [o8]; exact z)
    · exact Or.inr ⟨j, z1, by rw [o8]; exact z2, by rw [o8]; exact z3, by rw [o1, o1]; exact z4, by rw [o4]; exact z5⟩
/-- the side cannot fire yet -/
def rld (G : Gm) (u : Nat) (s : Int32) : Prop := G.1 0 < if s = 0 then shF G u 9 else shF G u 10
theorem fire_no (h : Inv sn T G) {u v : Nat} (hu : u < sn) (hv : v < sn) (huv : u ≠ v) {s : Int32} (hs : s = 0 ∨ s = 1) (hc : k_shot G u s v = 0 ∨ rld G u s) : k_fire G (nI u) s (nI v) = (-2, G) := by
  have hn := h.n
  unfold k_fire
  rw [h.kn hu, h.kn hv]
  dsimp only
  rw [if_neg (fun z => z.elim (nIne (by omega) (by omega) huv) (fun y => y hs)), if_pos (show G.1 1 = 0 ∨ ¬ 0 < shF G u 4 ∨ (G.1 0 < if s = 0 then shF G u 9 else shF G u 10) ∨ k_shot G u s v = 0 from hc.elim (fun z => Or.inr (Or.inr (Or.inr z))) (fun z => Or.inr (Or.inr (Or.inl z))))]
theorem Inv.fire (h : Inv sn T G) (hm : G.1 1 = 1) {u v : Nat} (hu : u < sn) (hv : v < sn) (huv : u ≠ v) {s : Int32} (hs : s = 0 ∨ s = 1) (hc : ¬ k_shot G u s v = 0) (hr : ¬ rld G u s) : ∃ q H, q ≤ 27 ∧ k_hits (shF G u) (k_shot G u s v) = nI q ∧ k_fire G (nI u) s (nI v) = (nI q, H) ∧ Inv sn T H ∧ H.1 = G.1 ∧ shF H v 4 = nI (hv_4 G v - q) ∧ rld H u s ∧ k_fire H (nI u) s (nI v) = (-2, H) := by
  have hn := h.n
  rcases shot_fs (G := G) (i := u) (s := s) (v := v) (by omega) with z | ⟨c1, c2, c3, _, r, r1, r3, er⟩
  · exact absurd z hc
  · obtain ⟨q, hq, eq⟩ := hits_nI (h.s7 (i := u) (by omega)) (h.s6 (by omega)) r1 r3
    obtain ⟨i1, i2, i3⟩ := h.FR (v := v) (q := q) (by omega) ((h.fl (by omega)).mp c3) hq
    obtain ⟨j1, j2, j3⟩ := i1.note (u := u) (by omega) s ((gFR G v (nI q)).1 0)
    have eh : k_hits (shF G u) (k_shot G u s v) = nI q := by rw [er]; exact eq
    have r2 : rld (sS (gFR G v (nI q)) u (k_note (shF (gFR G v (nI q)) u) s ((gFR G v (nI q)).1 0))) u s := by
      unfold rld
      rw [j2 u, if_pos rfl, note_r, j1.k0, i1.k0, show (2 : Int32) = nI 2 from rfl, nI_add]
      exact (nI_ltI (by have := h.t4; omega) (by have := h.t4; omega)).mpr (by omega)
    refine ⟨q, sS (gFR G v (nI q)) u (k_note (shF (gFR G v (nI q)) u) s ((gFR G v (nI q)).1 0)), hq, eh, ?_, j1, i2, ?_, r2, fire_no j1 hu hv huv hs (Or.inr r2)⟩
    · unfold k_fire
      rw [h.kn hu, h.kn hv]
      dsimp only
      rw [if_neg (fun z => z.elim (nIne (by omega) (by omega) huv) (fun y => y hs)), if_neg (fun z => ?_), eh]
      · rfl
      · rcases z with z | z | z | z
        · rw [hm] at z; exact absurd z (by decide)
        · exact z c1
        · exact hr z
        · exact hc z
    · rw [j3 v 4 (by decide) (by decide) (by decide), i3 v (by omega) 4 (by decide)]
      exact h.FH4 (by omega) hq
end FV2
section GV
variable {sn T : Nat} {G : Gm}
theorem Inv.grap (h : Inv sn T G) {u v : Nat} (hu : u < sn) (hv : v < sn) (huv : u ≠ v) : k_grap G (nI u) (nI v) = (-2, G) ∨ ∃ H, k_grap G (nI u) (nI v) = (shF H u 6 + shF H v 6, H) ∧ Inv sn T H ∧ H.1 = G.1 ∧ shF H u 8 = nI v ∧ shF H v 8 = nI u ∧ k_now H u = 0 := by
  have hn := h.n
  have key : k_grap G (nI u) (nI v) = if (G.1 1 = 0 ∨ ¬ 0 < shF G u 4 ∨ ¬ 0 < shF G v 4 ∨ ¬ shF G u 8 = -9 ∨ ¬ shF G v 8 = -9) ∨ shF G u 1 = shF G v 1 ∨ ¬ k_nbr (shF G u 2) (shF G v 2) 6 = true ∨ 2 * shF G u 6 < shF G v 6 then (-2, G) else (shF (k_gset G u v) u 6 + shF (k_gset G u v) v 6, k_gset G u v) := by
    unfold k_grap
    rw [h.kn hu, h.kn hv]
    dsimp only
    rw [if_neg (nIne (by omega) (by omega) huv)]
  by_cases c : (G.1 1 = 0 ∨ ¬ 0 < shF G u 4 ∨ ¬ 0 < shF G v 4 ∨ ¬ shF G u 8 = -9 ∨ ¬ shF G v 8 = -9) ∨ shF G u 1 = shF G v 1 ∨ ¬ k_nbr (shF G u 2) (shF G v 2) 6 = true ∨ 2 * shF G u 6 < shF G v 6
  · left; rw [key, if_pos c]
  · right
    have cu : ¬ shF G u 4 = 0 := fun z => c (Or.inl (Or.inr (Or.inl (by rw [z]; decide))))
    have cv : ¬ shF G v 4 = 0 := fun z => c (Or.inl (Or.inr (Or.inr (Or.inl (by rw [z]; decide)))))
    have cu8 : shF G u 8 = -9 := Classical.byContradiction (fun z => c (Or.inl (Or.inr (Or.inr (Or.inr (Or.inl z))))))
    have cv8 : shF G v 8 = -9 := Classical.byContradiction (fun z => c (Or.inl (Or.inr (Or.inr (Or.inr (Or.inr z))))))
    have cc : ¬ shF G u 1 = shF G v 1 := fun z => c (Or.inr (Or.inl z))
    generalize hH : k_gset G u v = H at key
    have hk : ∀ a k, shF H a k = if a = v ∧ k = 8 then nI u else if a = u ∧ k = 8 then nI v else shF G a k := fun a k => by
      rw [← hH]
      unfold k_gset
      rw [shv_8, shv_8 G u _ u 0, shv_8 G u _ a k, if_neg (show ¬ (u = u ∧ 0 = 8) from fun z => absurd z.2 (by decide))]
      rfl
    have ho : ∀ a k, k ≠ 8 → shF H a k = shF G a k := fun a k z => by rw [hk, if_neg (fun y => z y.2), if_neg (fun y => z y.2)]
    have ha : ∀ a k, a ≠ u → a ≠ v → shF H a k = shF G a k := fun a k z1 z2 => by rw [hk, if_neg (fun y => z2 y.1), if_neg (fun y => z1 y.1)]
    have hu8 : shF H u 8 = nI v := by rw [hk, if_neg (fun y => huv y.1), if_pos ⟨rfl, rfl⟩]
    have hv8 : shF H v 8 = nI u := by rw [hk, if_pos ⟨rfl, rfl⟩]
    have g1 : H.1 = G.1 := by rw [← hH]; rfl
    have g2 : H.2.1 = G.2.1 := by rw [← hH]; rfl
    refine ⟨H, by rw [key, if_neg c], ⟨h.1.ext (fun k _ _ => by rw [g1]) g2, ⟨fun a a8 => ?_, fun a s1 s2 => ?_⟩, h.2.2.1.sub (fun a _ z => by rw [ho a 4 (by decide)] at z; exact z) (fun a _ _ => ho a 2 (by decide)) g2, fun a a8 => ?_⟩, g1, hu8, hv8, ?_⟩
    · have hs := h.sh a8
      unfold Sh at hs ⊢
      rw [ho a 1 (by decide), ho a 2 (by decide), ho a 3 (by decide), ho a 4 (by decide), ho a 5 (by decide), ho a 6 (by decide), ho a 7 (by decide), ho a 11 (by decide)]
      exact hs
    · rw [ha a 4 (by omega) (by omega), ha a 8 (by omega) (by omega)]; exact h.ub s1 s2
    · by_cases e1 : a = u
      · exact Or.inr ⟨v, hv, by rw [e1]; exact hu8, by rw [e1]; exact hv8, by rw [e1, ho v 1 (by decide), ho u 1 (by decide)]; exact fun z => cc z.symm, by rw [e1, ho u 4 (by decide)]; exact cu⟩
      · by_cases e2 : a = v
        · exact Or.inr ⟨u, hu, by rw [e2]; exact hv8, by rw [e2]; exact hu8, by rw [e2, ho v 1 (by decide), ho u 1 (by decide)]; exact cc, by rw [e2, ho v 4 (by decide)]; exact cv⟩
        · rcases h.pr a8 with z | ⟨j, z1, z2, z3, z4, z5⟩
          · exact Or.inl (by rw [ha a 8 e1 e2]; exact z)
          · have j1 : j ≠ u := fun y => by rw [y, cu8] at z3; exact nI9 (a := a) (by omega) z3.symm
            have j2 : j ≠ v := fun y => by rw [y, cv8] at z3; exact nI9 (a := a) (by omega) z3.symm
            exact Or.inr ⟨j, z1, by rw [ha a 8 e1 e2]; exact z2, by rw [ha j 8 j1 j2]; exact z3, by rw [ho j 1 (by decide), ho a 1 (by decide)]; exact z4, by rw [ho a 4 (by decide)]; exact z5⟩
    · unfold k_now k_steps
      rw [if_pos (Or.inr (by rw [hu8]; exact nI9 (by omega)))]
theorem grap_self (h : Inv sn T G) {u : Nat} (hu : u < sn) : k_grap G (nI u) (nI u) = (-1, G) := by
  unfold k_grap
  rw [h.kn hu]
  dsimp only
  rw [if_pos rfl]
theorem Inv.cut (h : Inv sn T G) (hm : G.1 1 = 1) {u v : Nat} (hu : u < sn) (hv : v < sn) (e8 : shF G u 8 = nI v) : ∃ H, k_cut G (nI u) = (if shF G u 6 < shF G v 6 then -2 else nI v, H) ∧ Inv sn T H ∧ H.1 = G.1 ∧ (∀ a, a < 8 → shF H a 6 = shF G a 6) := by
  have hn := h.n
  have key : k_cut G (nI u) = if shF G u 6 < shF G v 6 then (-2, G) else (nI v, k_rel G u) := by
    unfold k_cut
    rw [h.kn hu]
    dsimp only
    rw [e8, h.kn hv]
    dsimp only
    by_cases c : shF G u 6 < shF G v 6
    · rw [if_pos (Or.inr c), if_pos c]
    · rw [if_neg (fun z => z.elim (fun y => by rw [hm] at y; exact absurd y (by decide)) c), if_neg c]; rfl
  by_cases c : shF G u 6 < shF G v 6
  · exact ⟨G, by rw [key, if_pos c, if_pos c], h, rfl, fun _ _ => rfl⟩
  · obtain ⟨r1, r2, r3⟩ := h.rel (v := u) (by omega)
    exact ⟨k_rel G u, by rw [key, if_neg c, if_neg c], r1, r2, fun a a8 => r3 a a8 6 (by decide)⟩
end GV
