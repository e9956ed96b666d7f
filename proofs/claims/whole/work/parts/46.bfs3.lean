/-! THE TIE: ways: a path step by step; the first path -/
section TE
variable {T sn : Nat} {dn : Nat → Int32 → Int32} {G : Gm} {s : Nat → Int32}
theorem z_go_0 (s : Nat → Int32) (sn i p : Nat) (x d : Int32) : z_go s sn i p 0 x d = (true, x, d) := rfl
/-- ahead: as the class has it -/
theorem RGd.ahead (h : RGd T sn dn G s) {i : Nat} (hi : i < sn) (hf : 0 < shF G i 4) {e d : Nat} (he : e < 81) (hd : d < 6) : (k_ahead G i (nI e) (nI d) = -9 ∧ (z_next (nI e) (nI d) < 0 ∨ (¬ z_next (nI e) (nI d) = gx s i 1 ∧ ¬ z_free s sn (z_next (nI e) (nI d)).toNatClampNeg = true))) ∨ ∃ y, y < 81 ∧ k_ahead G i (nI e) (nI d) = nI y ∧ z_next (nI e) (nI d) = nI y ∧ ¬ (z_next (nI e) (nI d) < 0 ∨ (¬ z_next (nI e) (nI d) = gx s i 1 ∧ ¬ z_free s sn (z_next (nI e) (nI d)).toNatClampNeg = true)) := by
  have hx := h.hx hi hf
  unfold k_ahead
  rcases nx_cases he hd with ⟨z1, z2⟩ | ⟨y, hy, z1, z2⟩
  · refine Or.inl ⟨?_, Or.inl (by rw [z1]; decide)⟩
    rw [z2, if_neg]
    rintro (z | z)
    · exact z.2 rfl
    · unfold k_free at z
      exact absurd (of_decide_eq_true z).1.1 (by decide)
  · have hy9 : ¬ nI y = -9 := fun z => absurd (nI_pos' (show y < 2 ^ 31 by omega)) (by rw [z]; decide)
    have hy0 : ¬ nI y < 0 := nI_pos (show y < 2 ^ 31 by omega)
    rw [z1, z2, nI_clamp (show y < 2 ^ 31 by omega), hx, h.free hy]
    by_cases c : nI y = shF G i 2
    · exact Or.inr ⟨y, hy, if_pos (Or.inl ⟨c, hy9⟩), rfl, fun z => z.elim hy0 (fun z => z.1 c)⟩
    · by_cases c2 : z_free s sn y = true
      · exact Or.inr ⟨y, hy, if_pos (Or.inr c2), rfl, fun z => z.elim hy0 (fun z => z.2 c2)⟩
      · exact Or.inl ⟨if_neg (fun z => z.elim (fun z => c z.1) c2), Or.inr ⟨c, c2⟩⟩
theorem RGd.gstep (h : RGd T sn dn G s) {i : Nat} (hi : i < sn) (hf : 0 < shF G i 4) {e d : Nat} (he : e < 81) (hd : d < 6) {p r g : Nat} (hg : p / 10 ^ r % 10 = g) (h1 : 1 ≤ g) (h3 : g ≤ 3) : (∃ q, q < 486 ∧ stp G i (e * 6 + d) g = some q ∧ z_go s sn i p (r + 1) (nI e) (nI d) = z_go s sn i p r (nI (q / 6)) (nI (q % 6)) ∧ k_go G i p (r + 1) (nI e) (nI d) = k_go G i p r (nI (q / 6)) (nI (q % 6))) ∨ (stp G i (e * 6 + d) g = none ∧ (z_go s sn i p (r + 1) (nI e) (nI d)).1 = false ∧ k_go G i p (r + 1) (nI e) (nI d) = none) := by
  have e1 : (e * 6 + d) / 6 = e := by omega
  have e2 : (e * 6 + d) % 6 = d := by omega
  have hy9 : ∀ y : Nat, y < 81 → ¬ nI y = -9 := fun y hy z => absurd (nI_pos' (show y < 2 ^ 31 by omega)) (by rw [z]; decide)
  unfold stp
  rw [z_go_s, k_go_s, hg, e1, e2]
  rcases (by omega : g = 1 ∨ g = 2 ∨ g = 3) with rfl | rfl | rfl
  · rw [if_pos (show (1 : Nat) = 1 from rfl), if_pos (show nI 1 = 1 from rfl), if_pos (show nI 1 = 1 from rfl), show k_turn (nI d) (nI 1) = nI d from rfl]
    rcases h.ahead hi hf he hd with ⟨a1, a2⟩ | ⟨y, hy, a1, a2, a3⟩
    · refine Or.inr ⟨?_, ?_, ?_⟩
      · rw [a1, if_neg (fun z => absurd z.1 (by decide))]
      · rw [if_pos a2]
      · rw [if_pos a1]
    · refine Or.inl ⟨y * 6 + d, by omega, ?_, ?_, ?_⟩
      · rw [a1, if_pos ⟨nI_pos' (by omega), (nI_ltI (b := 81) (by omega) (by decide)).mpr hy⟩, nI_clamp (by omega)]
      · rw [if_neg a3, a2, show (y * 6 + d) / 6 = y by omega, show (y * 6 + d) % 6 = d by omega]
      · rw [a1, if_neg (hy9 y hy), show (y * 6 + d) / 6 = y by omega, show (y * 6 + d) % 6 = d by omega]
  · have hk : k_turn (nI d) (nI 2) = nI ((d + 1) % 6) := by
      unfold k_turn
      rw [if_pos (show nI 2 = 2 from rfl)]
      by_cases c : d = 5
      · subst c; decide
      · rw [if_neg (show ¬ nI d = 5 from fun z => c ((nI_eq (b := 5) (by omega) (by decide)).mp z)), nI_1, Nat.mod_eq_of_lt (by omega)]
    refine Or.inl ⟨e * 6 + (d + 1) % 6, by omega, ?_, ?_, ?_⟩
    · rw [if_neg (by decide), if_pos rfl]
    · rw [if_neg (show ¬ nI 2 = 1 by decide), if_pos (show nI 2 = 2 from rfl), nI_1, show (6 : Int32) = nI 6 from rfl, pk_rem (by omega) (by decide) (by decide), show (e * 6 + (d + 1) % 6) / 6 = e by omega, show (e * 6 + (d + 1) % 6) % 6 = (d + 1) % 6 by omega]
    · rw [if_neg (show ¬ nI 2 = 1 by decide), if_neg (hy9 e he), hk, show (e * 6 + (d + 1) % 6) / 6 = e by omega, show (e * 6 + (d + 1) % 6) % 6 = (d + 1) % 6 by omega]
  · have hk : k_turn (nI d) (nI 3) = nI ((d + 5) % 6) := by
      unfold k_turn
      rw [if_neg (show ¬ nI 3 = 2 by decide), if_pos (show nI 3 = 3 from rfl)]
      by_cases c : d = 0
      · subst c; decide
      · rw [if_neg (show ¬ nI d = 0 from fun z => c ((nI_eq (b := 0) (by omega) (by decide)).mp z)), show (1 : Int32) = nI 1 from rfl, pk_sub (by omega), show (d + 5) % 6 = d - 1 by omega]
    refine Or.inl ⟨e * 6 + (d + 5) % 6, by omega, ?_, ?_, ?_⟩
    · rw [if_neg (by decide), if_neg (by decide)]
    · rw [if_neg (show ¬ nI 3 = 1 by decide), if_neg (show ¬ nI 3 = 2 by decide), show (5 : Int32) = nI 5 from rfl, nI_add, show (6 : Int32) = nI 6 from rfl, pk_rem (by omega) (by decide) (by decide), show (e * 6 + (d + 5) % 6) / 6 = e by omega, show (e * 6 + (d + 5) % 6) % 6 = (d + 5) % 6 by omega]
    · rw [if_neg (show ¬ nI 3 = 1 by decide), if_neg (hy9 e he), hk, show (e * 6 + (d + 5) % 6) / 6 = e by omega, show (e * 6 + (d + 5) % 6) % 6 = (d + 5) % 6 by omega]
/-- one more digit behind -/
theorem dig_up {p g : Nat} (hg : g < 10) (r : Nat) : (p * 10 + g) / 10 ^ (r + 1) % 10 = p / 10 ^ r % 10 := by
  rw [Nat.pow_succ, Nat.mul_comm (10 ^ r) 10, ← Nat.div_div_eq_div_mul, show (p * 10 + g) / 10 = p by omega]
theorem z_go_snoc (s : Nat → Int32) (sn i p : Nat) {g : Nat} (hg : g < 10) : ∀ (r : Nat) (x d : Int32), ((z_go s sn i p r x d).1 = false → (z_go s sn i (p * 10 + g) (r + 1) x d).1 = false) ∧ ((z_go s sn i p r x d).1 = true → z_go s sn i (p * 10 + g) (r + 1) x d = z_go s sn i (p * 10 + g) 1 (z_go s sn i p r x d).2.1 (z_go s sn i p r x d).2.2)
  | 0, x, d => ⟨fun z => absurd z (by rw [z_go_0]; exact fun y => by cases y), fun _ => by rw [z_go_0]⟩
  | r + 1, x, d => by
    rw [z_go_s s sn i (p * 10 + g) (r + 1), z_go_s s sn i p r, dig_up hg]
    by_cases c : nI (p / 10 ^ r % 10) = 1
    · rw [if_pos c, if_pos c]
      by_cases c2 : z_next x d < 0 ∨ (¬ z_next x d = gx s i 1 ∧ ¬ z_free s sn (z_next x d).toNatClampNeg = true)
      · rw [if_pos c2, if_pos c2]
        exact ⟨fun _ => rfl, fun z => by cases z⟩
      · rw [if_neg c2, if_neg c2]
        exact z_go_snoc s sn i p hg r _ _
    · rw [if_neg c, if_neg c]
      exact z_go_snoc s sn i p hg r _ _
theorem RGd.pth (h : RGd T sn dn G s) {i : Nat} (hi : i < sn) (hf : 0 < shF G i 4) {e0 d0 : Nat} (he : e0 < 81) (hd : d0 < 6) (h2 : shF G i 2 = nI e0) (h3 : shF G i 3 = nI d0) (k : Nat) : (∃ q, q < 486 ∧ pe G i (e0 * 6 + d0) k = some q ∧ zgo s sn i k = (true, nI (q / 6), nI (q % 6))) ∨ (pe G i (e0 * 6 + d0) k = none ∧ (zgo s sn i k).1 = false) := by
  have hx := (h.hx hi hf).trans h2
  have hh := (h.shr i hi).2.2.1.trans h3
  unfold zgo
  rw [hx, hh]
  induction k using Nat.strongRecOn with
  | _ k ih =>
    by_cases h0 : k = 0
    · subst h0
      refine Or.inl ⟨e0 * 6 + d0, by omega, pe_0 _ _ _, ?_⟩
      rw [ln_0, z_go_0, show (e0 * 6 + d0) / 6 = e0 by omega, show (e0 * 6 + d0) % 6 = d0 by omega]
    · have hg : (k - 1) % 3 + 1 < 10 := by omega
      have sc := z_go_snoc s sn i (bp ((k - 1) / 3)) hg (ln ((k - 1) / 3)) (nI e0) (nI d0)
      rw [pe_s h0, bp_s h0, ln_s h0]
      rcases ih ((k - 1) / 3) (by omega) with ⟨pl, a1, a2, a3⟩ | ⟨a1, a2⟩
      · rw [a3] at sc
        rw [a2, sc.2 rfl]
        have eg : (bp ((k - 1) / 3) * 10 + ((k - 1) % 3 + 1)) / 10 ^ 0 % 10 = (k - 1) % 3 + 1 := by
          rw [Nat.pow_zero, Nat.div_one]; omega
        rcases h.gstep hi hf (e := pl / 6) (d := pl % 6) (by omega) (by omega) eg (by omega) (by omega) with ⟨q, b1, b2, b3, _⟩ | ⟨b1, b2, _⟩
        · rw [show pl / 6 * 6 + pl % 6 = pl by omega] at b2
          exact Or.inl ⟨q, b1, b2, b3.trans (z_go_0 _ _ _ _ _ _)⟩
        · rw [show pl / 6 * 6 + pl % 6 = pl by omega] at b1
          exact Or.inr ⟨b1, b2⟩
      · exact Or.inr ⟨by rw [a1]; rfl, sc.1 a2⟩
theorem z_ptk_spec (s : Nat → Int32) (sn i y : Nat) {mo : Nat} (hmo : mo < 100) : ∀ n k : Nat, k + n ≤ 1093 → (z_ptk s sn i y (nI mo) n k = 0 ∧ ∀ a, k ≤ a → a < k + n → ln a ≤ mo → ¬ ((zgo s sn i a).1 = true ∧ (zgo s sn i a).2.1 = nI y)) ∨ (k ≤ z_ptk s sn i y (nI mo) n k ∧ z_ptk s sn i y (nI mo) n k < k + n ∧ ln (z_ptk s sn i y (nI mo) n k) ≤ mo ∧ ((zgo s sn i (z_ptk s sn i y (nI mo) n k)).1 = true ∧ (zgo s sn i (z_ptk s sn i y (nI mo) n k)).2.1 = nI y) ∧ ∀ a, k ≤ a → a < z_ptk s sn i y (nI mo) n k → ¬ ((zgo s sn i a).1 = true ∧ (zgo s sn i a).2.1 = nI y))
  | 0, k, _ => Or.inl ⟨rfl, fun a h1 h2 => absurd h2 (by omega)⟩
  | n + 1, k, hk => by
    have hl7 : ln k ≤ 7 := (ln_le 7 k).mpr (Nat.le_trans (show k ≤ 1093 by omega) (by decide))
    rw [z_ptk_s]
    by_cases c : nI (ln k) ≤ nI mo
    · rw [if_pos c]
      have c := (nI_leI (by omega) (by omega)).mp c
      by_cases c2 : (zgo s sn i k).1 = true ∧ (zgo s sn i k).2.1 = nI y
      · rw [if_pos c2]
        exact Or.inr ⟨Nat.le_refl _, by omega, c, c2, fun a h1 h2 => absurd h2 (by omega)⟩
      · rw [if_neg c2]
        rcases z_ptk_spec s sn i y hmo n (k + 1) (by omega) with ⟨a1, a2⟩ | ⟨a1, a2, a3, a4, a5⟩
        · refine Or.inl ⟨a1, fun a h1 h2 h3 => ?_⟩
          by_cases ea : a = k
          · rw [ea]; exact c2
          · exact a2 a (by omega) (by omega) h3
        · refine Or.inr ⟨by omega, by omega, a3, a4, fun a h1 h2 => ?_⟩
          by_cases ea : a = k
          · rw [ea]; exact c2
          · exact a5 a (by omega) h2
    · rw [if_neg c]
      refine Or.inl ⟨rfl, fun a h1 h2 h3 => absurd ?_ c⟩
      exact (nI_leI (by omega) (by omega)).mpr (Nat.le_trans (ln_mono h1) h3)
end TE
