/-! REPAIRS -/
section MV
variable {sn T : Nat} {G : Gm}
theorem kmin_nI {a b : Nat} (ha : a < 2 ^ 31) (hb : b < 2 ^ 31) : kmin (nI a) (nI b) = nI (min a b) := by
  rw [kmin_lt]
  by_cases c : nI a < nI b
  · rw [if_pos c, Nat.min_eq_left (Nat.le_of_lt ((nI_ltI ha hb).mp c))]
  · rw [if_neg c, Nat.min_eq_right (Nat.le_of_not_lt (fun z => c ((nI_ltI ha hb).mpr z)))]
/-- which field a repair is of -/
def rj (w : Nat) : Nat := if w = 0 then 4 else if w = 1 then 5 else 7
def rc (w q : Nat) : Nat := if w = 0 then q else w + 1
theorem Inv.amt (h : Inv sn T G) {u c t : Nat} (hu : u < 8) (hc : c < 2) (e1 : shF G u 1 = nI c) (ht : t < 100) (et : cF G c 2 = nI t) {w : Nat} (hw : w < 3) : ∃ q, k_mamt G u (nI w) = nI q ∧ q ≤ 20 ∧ rc w q ≤ t + (if q = 0 then 5 else 0) ∧ (q = 0 ∨ (nI q * (nI w + 1) = nI (rc w q) ∧ (w = 0 → hv G u 4 + q ≤ 20) ∧ (w = 1 → hv G u 5 + q ≤ 8) ∧ (w = 2 → hv G u 7 + q ≤ 9))) := by
  have v4 := h.v4 hu
  have v5 := h.v5 hu
  have v6 := h.v6 hu
  have v7 := h.v7 hu
  unfold k_mamt k_mendable
  rw [e1, cix_nI hc, et]
  rcases (by omega : w = 0 ∨ w = 1 ∨ w = 2) with rfl | rfl | rfl
  · rw [if_pos (show nI 0 = 0 from rfl), v6.1, v4.1, show (4 : Int32) = nI 4 from rfl, show (20 : Int32) = nI 20 from rfl, pk_div (by omega) (by decide) (by decide), pk_sub (by omega), kmin_nI (by omega) (by omega), kmin_nI (by omega) (by omega)]
    refine ⟨_, rfl, by omega, ?_, Or.inr ⟨?_, fun _ => by omega, fun z => absurd z (by decide), fun z => absurd z (by decide)⟩⟩
    · unfold rc; rw [if_pos rfl]; omega
    · unfold rc; rw [if_pos rfl, show nI 0 + 1 = nI 1 from rfl, pk_mul, Nat.mul_one]
  · rw [if_neg (show ¬ nI 1 = 0 by decide), if_pos (show nI 1 = 1 from rfl), v5.1, show (8 : Int32) = nI 8 from rfl, show (2 : Int32) = nI 2 from rfl]
    by_cases z : nI (hv G u 5) < nI 8 ∧ nI 2 ≤ nI t
    · rw [if_pos z]
      have z1 := (nI_ltI (by omega) (by decide)).mp z.1
      have z2 := (nI_leI (by decide) (by omega)).mp z.2
      exact ⟨1, rfl, by decide, by unfold rc; rw [if_neg (by decide)]; omega, Or.inr ⟨rfl, fun y => absurd y (by decide), fun _ => by omega, fun y => absurd y (by decide)⟩⟩
    · rw [if_neg z]
      exact ⟨0, rfl, by decide, by unfold rc; rw [if_neg (by decide), if_pos rfl]; omega, Or.inl rfl⟩
  · rw [if_neg (show ¬ nI 2 = 0 by decide), if_neg (show ¬ nI 2 = 1 by decide), v7.1, show (9 : Int32) = nI 9 from rfl, show (3 : Int32) = nI 3 from rfl]
    by_cases z : nI (hv G u 7) < nI 9 ∧ nI 3 ≤ nI t
    · rw [if_pos z]
      have z1 := (nI_ltI (by omega) (by decide)).mp z.1
      have z2 := (nI_leI (by decide) (by omega)).mp z.2
      exact ⟨1, rfl, by decide, by unfold rc; rw [if_neg (by decide)]; omega, Or.inr ⟨rfl, fun y => absurd y (by decide), fun y => absurd y (by decide), fun _ => by omega⟩⟩
    · rw [if_neg z]
      exact ⟨0, rfl, by decide, by unfold rc; rw [if_neg (by decide), if_pos rfl]; omega, Or.inl rfl⟩
theorem madd_j (G : Gm) (u : Nat) {w : Nat} (hw : w < 3) (t : Int32) : k_madd G u (nI w) t = sF G u (rj w) (shF G u (rj w) + t) := by
  unfold k_madd rj
  rcases (by omega : w = 0 ∨ w = 1 ∨ w = 2) with rfl | rfl | rfl <;> rfl
theorem or4 : (0 : Int32) ||| 4 = 4 := by decide
theorem Inv.mend (h : Inv sn T G) (hm : G.1 1 = 1) {u c t : Nat} (hu : u < sn) (hc : c < 2) (e1 : shF G u 1 = nI c) (ht : t < 100) (et : cF G c 2 = nI t) {w : Nat} (hw : w < 3) : k_mend G (nI u) (nI w) = (-2, G) ∨ ∃ q H, 0 < q ∧ q ≤ 20 ∧ k_mend G (nI u) (nI w) = (nI q, H) ∧ Inv sn T H ∧ H.1 1 = 1 ∧ rc w q ≤ t ∧ cF H c 2 = nI (t - rc w q) ∧ shF H u 1 = nI c ∧ shF H u 11 = 4 ∧ k_mend H (nI u) (nI w) = (-2, H) := by
  have hn := h.n
  obtain ⟨q, q1, q2, q3, q4⟩ := h.amt (u := u) (by omega) hc e1 ht et hw
  have hw3 : 0 ≤ nI w ∧ nI w ≤ 2 := ⟨nI_pos' (by omega), (nI_leI (b := 2) (by omega) (by decide)).mpr (by omega)⟩
  have key : k_mend G (nI u) (nI w) = if G.1 1 = 0 ∨ ¬ 0 < shF G u 4 ∨ ¬ shF G u 8 = -9 ∨ ¬ shF G u 11 = 0 ∨ k_mamt G u (nI w) ≤ 0 then (-2, G) else (nI q, k_msets G u (nI w) (nI q)) := by
    unfold k_mend
    rw [h.kn hu]
    dsimp only
    rw [if_pos hw3, q1]
  by_cases c0 : G.1 1 = 0 ∨ ¬ 0 < shF G u 4 ∨ ¬ shF G u 8 = -9 ∨ ¬ shF G u 11 = 0 ∨ k_mamt G u (nI w) ≤ 0
  · left; rw [key, if_pos c0]
  · right
    have cf : ¬ shF G u 4 = 0 := fun z => c0 (Or.inr (Or.inl (by rw [z]; decide)))
    have c8 : shF G u 8 = -9 := Classical.byContradiction (fun z => c0 (Or.inr (Or.inr (Or.inl z))))
    have c11 : shF G u 11 = 0 := Classical.byContradiction (fun z => c0 (Or.inr (Or.inr (Or.inr (Or.inl z)))))
    have hq : 0 < q := Nat.pos_of_ne_zero (fun z => c0 (Or.inr (Or.inr (Or.inr (Or.inr (by rw [q1, z]; decide))))))
    obtain ⟨p1, p2, p3, p4⟩ := q4.resolve_left (by omega)
    have hct : rc w q ≤ t := by rw [if_neg (by omega)] at q3; exact q3
    have hj4 : rj w = 4 ∨ rj w = 5 ∨ rj w = 7 := by unfold rj; rcases (by omega : w = 0 ∨ w = 1 ∨ w = 2) with rfl | rfl | rfl <;> decide
    have hj0 : rj w ≠ 0 := by omega
    generalize hj : rj w = j at hj4 hj0
    have hH : k_msets G u (nI w) (nI q) = sF (sK (sF G u j (shF G u j + nI q)) c 2 (nI (t - rc w q))) u 11 4 := by
      unfold k_msets
      rw [madd_j G u hw, hj]
      dsimp only
      rw [e1, cix_nI hc, show cF (sF G u j (shF G u j + nI q)) c 2 = nI t from et, p1, pk_sub hct]
      rw [show shF (sK (sF G u j (shF G u j + nI q)) c 2 (nI (t - rc w q))) u 11 = shF (sF G u j (shF G u j + nI q)) u 11 from rfl, shv G u hj0, if_neg (fun z => by omega), c11, or4]
    rw [hH] at key
    generalize hHH : sF (sK (sF G u j (shF G u j + nI q)) c 2 (nI (t - rc w q))) u 11 4 = H at key
    have hk : ∀ a k, shF H a k = if a = u ∧ k = 11 then 4 else if a = u ∧ k = j then shF G u j + nI q else shF G a k := fun a k => by
      rw [← hHH, shv_11, show shF (sK (sF G u j (shF G u j + nI q)) c 2 (nI (t - rc w q))) a k = shF (sF G u j (shF G u j + nI q)) a k from rfl, shv G u hj0]
    have ha : ∀ a k, a ≠ u → shF H a k = shF G a k := fun a k z => by rw [hk, if_neg (fun y => z y.1), if_neg (fun y => z y.1)]
    have ho : ∀ a k, k ≠ 11 → k ≠ j → shF H a k = shF G a k := fun a k z1 z2 => by rw [hk, if_neg (fun y => z1 y.2), if_neg (fun y => z2 y.2)]
    have h1 : ∀ a, shF H a 1 = shF G a 1 := fun a => ho a 1 (by decide) (by omega)
    have h2 : ∀ a, shF H a 2 = shF G a 2 := fun a => ho a 2 (by decide) (by omega)
    have h8 : ∀ a, shF H a 8 = shF G a 8 := fun a => ho a 8 (by decide) (by omega)
    have g0 : ∀ k, k < 6 → H.1 k = G.1 k := fun k hk6 => by
      rw [← hHH]
      show (sK (sF G u j (shF G u j + nI q)) c 2 (nI (t - rc w q))).1 k = _
      rw [gkv _ _ _ _ _ hk6]; rfl
    have gc : ∀ a k, k < 3 → cF H a k = if a = c ∧ k = 2 then nI (t - rc w q) else cF G a k := fun a k hk3 => by
      rw [← hHH]
      show cF (sK (sF G u j (shF G u j + nI q)) c 2 (nI (t - rc w q))) a k = _
      rw [ckv _ _ _ _ _ _ hk3]; rfl
    have g2 : H.2.1 = G.2.1 := by rw [← hHH]; rfl
    have n4 : ∀ a, a < 8 → ¬ shF G a 4 = 0 → ¬ shF H a 4 = 0 := fun a a8 z => by
      by_cases e : a = u
      · rw [e, hk, if_neg (fun y => absurd y.2 (by decide))]
        by_cases e4 : j = 4
        · rw [e4, if_pos ⟨rfl, rfl⟩, (h.v4 (by omega)).1, nI_add]
          exact nI_ne0 (by omega) (by have := (h.v4 (i := u) (by omega)).2; omega)
        · rw [if_neg (fun y => e4 y.2.symm)]; exact cf
      · rw [ha a 4 e]; exact z
    have hG : IvG sn T H := by
      obtain ⟨b1, b2, b3, b4, b5, b6, b7, b8⟩ := h.1
      refine ⟨b1, by rw [g0 4 (by decide)]; exact b2, by rw [g0 0 (by decide)]; exact b3, b4, by rw [g0 2 (by decide)]; exact b5, by rw [g0 3 (by decide)]; exact b6, fun d hd => ?_, by rw [g2]; exact b8⟩
      rw [gc d 0 (by decide), gc d 1 (by decide), gc d 2 (by decide), if_neg (fun y => absurd y.2 (by decide)), if_neg (fun y => absurd y.2 (by decide))]
      refine ⟨(b7 d hd).1, (b7 d hd).2.1, ?_⟩
      split
      · exact ⟨_, by omega, rfl⟩
      · exact (b7 d hd).2.2
    have hI : Inv sn T H := by
      refine ⟨hG, ⟨fun a a8 => ?_, fun a s1 s2 => by rw [ha a 4 (by omega), h8]; exact h.ub s1 s2⟩, h.2.2.1.sub (fun a a8 z => ?_) (fun a _ _ => h2 a) g2, fun a a8 => ?_⟩
      · by_cases e : a = u
        · have hs := h.sh a8
          have v4 := h.v4 a8
          have v5 := h.v5 a8
          have v7 := h.v7 a8
          rw [← e] at p2 p3 p4
          unfold Sh at hs ⊢
          have hw0 : j = 4 → w = 0 := fun z => by unfold rj at hj; rcases (by omega : w = 0 ∨ w = 1 ∨ w = 2) with y | y | y <;> rw [y] at hj <;> simp at hj <;> omega
          have hw1 : j = 5 → w = 1 := fun z => by unfold rj at hj; rcases (by omega : w = 0 ∨ w = 1 ∨ w = 2) with y | y | y <;> rw [y] at hj <;> simp at hj <;> omega
          have hw2 : j = 7 → w = 2 := fun z => by unfold rj at hj; rcases (by omega : w = 0 ∨ w = 1 ∨ w = 2) with y | y | y <;> rw [y] at hj <;> simp at hj <;> omega
          have hq11 : ∀ k, k ≠ 11 → shF H a k = if a = u ∧ k = j then shF G u j + nI q else shF G a k := fun k z => by rw [hk, if_neg (fun y => z y.2)]
          have ea11 : shF H a 11 = 4 := by rw [hk, if_pos ⟨e, rfl⟩]
          rw [h1, h2, ho a 3 (by decide) (by omega), ho a 6 (by decide) (by omega), hq11 4 (by decide), hq11 5 (by decide), hq11 7 (by decide), ea11]
          refine ⟨hs.1, hs.2.1, hs.2.2.1, ?_, ?_, hs.2.2.2.2.2.1, ?_, ⟨4, by decide, rfl⟩⟩
          · split
            · rename_i z
              rw [← z.2, ← e, v4.1, nI_add]
              exact ⟨_, by have := p2 (hw0 z.2.symm); omega, rfl⟩
            · exact hs.2.2.2.1
          · split
            · rename_i z
              rw [← z.2, ← e, v5.1, nI_add]
              exact ⟨_, by have := p3 (hw1 z.2.symm); omega, rfl⟩
            · exact hs.2.2.2.2.1
          · split
            · rename_i z
              rw [← z.2, ← e, v7.1, nI_add]
              exact ⟨_, by have := p4 (hw2 z.2.symm); omega, rfl⟩
            · exact hs.2.2.2.2.2.2.1
        · unfold Sh
          rw [ha a 1 e, ha a 2 e, ha a 3 e, ha a 4 e, ha a 5 e, ha a 6 e, ha a 7 e, ha a 11 e]
          exact h.sh a8
      · by_cases e : a = u
        · rw [e]; exact cf
        · rw [ha a 4 e] at z; exact z
      · rcases h.pr a8 with z | ⟨b, z1, z2, z3, z4, z5⟩
        · exact Or.inl (by rw [h8]; exact z)
        · exact Or.inr ⟨b, z1, by rw [h8]; exact z2, by rw [h8]; exact z3, by rw [h1, h1]; exact z4, n4 a a8 z5⟩
    have e11 : shF H u 11 = 4 := by rw [hk, if_pos ⟨rfl, rfl⟩]
    refine ⟨q, H, hq, q2, by rw [key, if_neg c0], hI, by rw [g0 1 (by decide)]; exact hm, hct, by rw [gc c 2 (by decide), if_pos ⟨rfl, rfl⟩], by rw [h1]; exact e1, e11, ?_⟩
    unfold k_mend
    rw [hI.kn hu]
    dsimp only
    rw [if_pos hw3, if_pos (Or.inr (Or.inr (Or.inr (Or.inl (by rw [e11]; decide)))))]
end MV
