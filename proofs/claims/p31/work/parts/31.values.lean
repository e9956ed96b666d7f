/-! WHAT THE CLASS TELLS, where the invariant holds -/
section VV
variable {sn T : Nat} {C : Cm}
theorem Inv.c5 (h : Inv sn T C.1.1) : p_count C 5 = nI sn := h.k4
theorem ct1 (C : Cm) : p_count C 1 = if C.1.1.1 1 = 0 then 0 else 1 := rfl
theorem ct2 (C : Cm) : p_count C 2 = C.1.1.1 2 := rfl
theorem ct3 (C : Cm) : p_count C 3 = C.1.1.1 3 := rfl
theorem ct7 (C : Cm) : p_count C 7 = k_isls C.1.1 := rfl
theorem ct9 (C : Cm) : p_count C 9 = kbit C.1.2.2.2 := rfl
theorem Inv.c6 (h : Inv sn T C.1.1) : p_count C 6 = nI (mb (fla C.1.1) 8) := h.fleets
theorem Inv.cpA (_ : Inv sn T C.1.1) : p_cap C 0 3 &&& p_cap C 1 3 = 0 := fleets_0 C.1.1
theorem Inv.cpO (h : Inv sn T C.1.1) : p_cap C 0 3 ||| p_cap C 1 3 = nI (mb (fla C.1.1) 8) := h.fleets
theorem Inv.cp4 (h : Inv sn T C.1.1) : p_cap C 0 4 + p_cap C 1 4 = nI (sm (hg C.1.1) sn) := by
  have e0 : p_cap C 0 4 = nI (sm (hcc C.1.1 0) 8) := h.hulls 0
  have e1 : p_cap C 1 4 = nI (sm (hcc C.1.1 1) 8) := h.hulls 1
  rw [e0, e1, nI_add, h.hcs, h.hgs]
theorem Inv.str4 (h : Inv sn T C.1.1) : ¬ p_strength C 0 < p_cap C 0 4 / 2 := by
  have e0 : p_cap C 0 4 = nI (sm (hcc C.1.1 0) 8) := h.hulls 0
  have e1 : p_strength C 0 = nI (sm (ec C.1.1 0) 8 / 8) := h.eights 0
  have b1 := h.hcle 0
  have b2 := h.ecle 0
  rw [e0, e1, show (2 : Int32) = nI 2 from rfl, pk_div (by omega) (by decide) (by decide), nI_ltI (by omega) (by omega)]
  exact Nat.not_lt.mpr h.strge
theorem Inv.hand (h : Inv sn T C.1.1) {c : Nat} (hc : c < 2) : ∃ hd, 0 < hd ∧ hd < 64 ∧ p_cap C (nI c) 0 = nI hd ∧ cF C.1.1 c 0 = nI hd := by
  obtain ⟨hd, h1, h2, h3⟩ := (h.cp c hc).1
  refine ⟨hd, h1, h2, ?_, h3⟩
  rw [← h3]
  rcases (by omega : c = 0 ∨ c = 1) with rfl | rfl <;> rfl
theorem Inv.cp0 (h : Inv sn T C.1.1) : ¬ p_cap C 0 0 ≤ 0 := by
  obtain ⟨hd, h1, h2, h3, _⟩ := h.hand (c := 0) (by decide)
  have h3 : p_cap C 0 0 = nI hd := h3
  rw [h3, show (0 : Int32) = nI 0 from rfl, nI_leI (by omega) (by decide)]
  omega
theorem Inv.cp1 (h : Inv sn T C.1.1) : ¬ p_cap C 1 0 ≤ 0 := by
  obtain ⟨hd, h1, h2, h3, _⟩ := h.hand (c := 1) (by decide)
  have h3 : p_cap C 1 0 = nI hd := h3
  rw [h3, show (0 : Int32) = nI 0 from rfl, nI_leI (by omega) (by decide)]
  omega
theorem Inv.ship (h : Inv sn T C.1.1) {i : Nat} (hi : i < sn) (v : Int32) : p_ship C (nI i) v = k_tship C.1.1 i v := by
  unfold p_ship; rw [h.kn hi]
theorem Inv.sh0 (h : Inv sn T C.1.1) {i : Nat} (hi : i < sn) : p_ship C (nI i) 0 = shF C.1.1 i 1 := h.ship hi 0
theorem Inv.sh1 (h : Inv sn T C.1.1) {i : Nat} (hi : i < sn) (hf : ¬ shF C.1.1 i 4 = 0) : p_ship C (nI i) 1 = shF C.1.1 i 2 := by
  rw [h.ship hi]
  exact if_pos ((h.fl (by have := h.n; omega)).mpr hf)
theorem Inv.sh1s (h : Inv sn T C.1.1) {i : Nat} (hi : i < sn) (hf : shF C.1.1 i 4 = 0) : p_ship C (nI i) 1 = -9 := by
  rw [h.ship hi]
  exact if_neg (show ¬ 0 < shF C.1.1 i 4 by rw [hf]; decide)
theorem Inv.sh2 (h : Inv sn T C.1.1) {i : Nat} (hi : i < sn) : p_ship C (nI i) 2 = shF C.1.1 i 3 := h.ship hi 2
theorem Inv.sh3 (h : Inv sn T C.1.1) {i : Nat} (hi : i < sn) : p_ship C (nI i) 3 = shF C.1.1 i 4 := h.ship hi 3
theorem Inv.sh5 (h : Inv sn T C.1.1) {i : Nat} (hi : i < sn) : p_ship C (nI i) 5 = shF C.1.1 i 6 := h.ship hi 5
theorem Inv.sh7 (h : Inv sn T C.1.1) {i : Nat} (hi : i < sn) : p_ship C (nI i) 7 = shF C.1.1 i 8 := h.ship hi 7
theorem Inv.sh8 (h : Inv sn T C.1.1) {i : Nat} (hi : i < sn) : p_ship C (nI i) 8 = k_now C.1.1 i := h.ship hi 8
theorem Inv.sh9 (h : Inv sn T C.1.1) {i : Nat} (hi : i < sn) : p_ship C (nI i) 9 = bI (C.1.1.1 0 < shF C.1.1 i 9) + (if C.1.1.1 0 < shF C.1.1 i 10 then 2 else 0) := h.ship hi 9
theorem Inv.sh10 (h : Inv sn T C.1.1) {i : Nat} (hi : i < sn) : p_ship C (nI i) 10 = shF C.1.1 i 11 := h.ship hi 10
theorem Inv.onv (h : Inv sn T C.1.1) {j : Nat} (hj : j < 8) (hf : ¬ shF C.1.1 j 4 = 0) : p_on C (shF C.1.1 j 2) = nI j := by
  obtain ⟨e, he, ee⟩ := h.s2 hj
  unfold p_on
  rw [if_pos (by rw [ee]; exact nI81 he)]
  unfold k_cont
  rw [if_neg (h.noisl hj hf), h.on_s hj hf]
  rfl
theorem p_on_c (C : Cm) {e : Nat} (he : e < 81) : p_on C (nI e) = k_cont C.1.1 (nI e) := if_pos (nI81 he)
theorem sd01 {s : Nat} (hs : s < 2) : nI s = 0 ∨ nI s = 1 := by
  rcases (by omega : s = 0 ∨ s = 1) with rfl | rfl
  · exact Or.inl rfl
  · exact Or.inr rfl
theorem Inv.tgv (h : Inv sn T C.1.1) {i : Nat} (hi : i < sn) {s : Int32} (hs : s = 0 ∨ s = 1) : p_targets C (nI i) s = nI (mb (tgb C.1.1 i s) 8) := by
  unfold p_targets
  rw [h.kn hi]
  dsimp only
  rw [if_pos hs, targets_mb]
theorem Inv.tgs (h : Inv sn T C.1.1) {i : Nat} (hi : i < sn) (hf : shF C.1.1 i 4 = 0) : p_targets C (nI i) 0 = 0 := by
  unfold p_targets
  rw [h.kn hi]
  dsimp only
  rw [if_pos (Or.inl rfl), tg_sunk hf]
theorem Inv.thv (h : Inv sn T C.1.1) {j : Nat} (hj : j < sn) : p_threats C (nI j) = nI (mb (thb C.1.1 j) 8) := by
  unfold p_threats
  rw [h.kn hj]
  exact threats_mb _ _
theorem Inv.ths (h : Inv sn T C.1.1) {j : Nat} (hj : j < sn) (hf : shF C.1.1 j 4 = 0) : p_threats C (nI j) = 0 := by
  unfold p_threats
  rw [h.kn hj]
  exact th_sunk (by have := h.n; omega) hf
theorem Inv.hit (h : Inv sn T C.1.1) {i j : Nat} (hi : i < sn) (hj : j < sn) (hij : i ≠ j) {s : Int32} (hs : s = 0 ∨ s = 1) : p_hits C (nI i) s (nI j) = if k_shot C.1.1 i s j = 0 then -9 else k_hits (shF C.1.1 i) (k_shot C.1.1 i s j) := by
  have hn := h.n
  unfold p_hits
  rw [h.kn hi, h.kn hj]
  dsimp only
  rw [if_pos ⟨nIne (by omega) (by omega) hij, hs⟩]
theorem Inv.hit_t (h : Inv sn T C.1.1) {i j : Nat} (hi : i < sn) (hj : j < sn) (hij : i ≠ j) {s : Int32} (hs : s = 0 ∨ s = 1) (ht : tgb C.1.1 i s j = true) : ∃ q, q ≤ 27 ∧ p_hits C (nI i) s (nI j) = nI q := by
  have hn := h.n
  rw [h.hit hi hj hij hs, if_neg (tgb_t ht)]
  rcases shot_fs (G := C.1.1) (i := i) (s := s) (v := j) (by omega) with z | ⟨_, _, _, _, r, r1, r3, er⟩
  · exact absurd z (tgb_t ht)
  · rw [er]; exact hits_nI (h.s7 (by omega)) (h.s6 (by omega)) r1 r3
theorem Inv.hit_f (h : Inv sn T C.1.1) {i j : Nat} (hi : i < sn) (hj : j < sn) (hij : i ≠ j) {s : Int32} (hs : s = 0 ∨ s = 1) (ht : ¬ tgb C.1.1 i s j = true) : p_hits C (nI i) s (nI j) = -9 := by
  rw [h.hit hi hj hij hs, if_pos (tgb_f ht)]
end VV
