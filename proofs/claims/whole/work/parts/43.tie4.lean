/-! THE TIE: all of the class and all of the reference; the looking methods -/
def RS (T : Nat) (S : Sm) (s : Nat → Int32) : Prop := (∃ sn, RG T sn S.1 s) ∧ (∃ b0 b1 : Nat, b0 < 2 ∧ b1 < 2 ∧ s 181 = nI b0 ∧ s 182 = nI b1 ∧ S.2.2.2 = nI (b0 + 2 * b1) ∧ (b0 = 1 → ∃ sn, RG T sn S.2.1 (fun j => s (183 + j))) ∧ (b1 = 1 → ∃ sn, RG T sn S.2.2.1 (fun j => s (364 + j)))) ∧ bz S.2.1 ∧ bz S.2.2.1
def RH (T n : Nat) (X : Nat → Sm) (b : Nat → Int32) : Prop := ∀ j, j < n → RS T (X j) (fun k => b (545 * (n - 1 - j) + k))
def RC (T : Nat) (C : Cm) (M : Mm) : Prop := RS T C.1 M.2.1 ∧ C.2.1 ≤ 6 ∧ M.1 3 = nI C.2.1 ∧ RH T C.2.1 C.2.2.1 M.2.2.1 ∧ C.2.2.2.2 ≤ 100 ∧ M.1 4 = nI C.2.2.2.2 ∧ M.2.2.2.1 = C.2.2.2.1 ∧ M.1 6 = 0
theorem RC.ms {T : Nat} {C : Cm} {M M2 : Mm} (h : RC T C M) (e : Ms M M2) : RC T C M2 := by
  obtain ⟨h1, h2, h3, h4, h5, h6, h7, h8⟩ := h
  obtain ⟨e1, e2, e3, e4, e5, e6⟩ := e
  exact ⟨by rw [e1]; exact h1, h2, e4.trans h3, by rw [e2]; exact h4, h5, e5.trans h6, e3.trans h7, e6.trans h8⟩
section TD
variable {T sn : Nat} {C : Cm} {M : Mm}
theorem tie_count (h : RC T C M) (hG : RG T sn C.1.1 M.2.1) (v : Int32) : p_count C v = zp_count M sn v := by
  obtain ⟨b0, b1, hb0, hb1, q1, q2, q3, _⟩ := h.1.2.1
  by_cases h0 : v = 0
  · subst h0; exact hG.s0.symm
  by_cases h1 : v = 1
  · subst h1
    show (if C.1.1.1 1 = 0 then 0 else 1) = M.2.1 1
    rw [hG.s1]
    rcases hG.mv with e | e
    · rw [if_pos e, e]
    · rw [if_neg (by rw [e]; decide), e]
  by_cases h2 : v = 2
  · subst h2; exact hG.s2.symm
  by_cases h3 : v = 3
  · subst h3; exact hG.s3.symm
  by_cases h4 : v = 4
  · subst h4; exact hG.told
  by_cases h5 : v = 5
  · subst h5; exact hG.k4.trans hG.s10.symm
  by_cases h6 : v = 6
  · subst h6; exact hG.fleets
  by_cases h7 : v = 7
  · subst h7; exact hG.isls
  by_cases h8 : v = 8
  · subst h8; exact hG.s11.symm
  by_cases h9 : v = 9
  · subst h9
    show kbit C.1.2.2.2 = M.2.1 181 + M.2.1 182
    rw [q1, q2, q3]
    rcases (by omega : b0 = 0 ∨ b0 = 1) with rfl | rfl <;> rcases (by omega : b1 = 0 ∨ b1 = 1) with rfl | rfl <;> decide
  by_cases h10 : v = 10
  · subst h10; exact h.2.2.1.symm
  by_cases h11 : v = 11
  · subst h11; exact h.2.2.2.2.2.1.symm
  unfold p_count zp_count k_tally
  rw [if_neg h9, if_neg h10, if_neg h11, if_neg h0, if_neg h1, if_neg h2, if_neg h3, if_neg h4, if_neg h5, if_neg h6, if_neg h7, if_neg h8, if_neg h0, if_neg h1, if_neg h2, if_neg h3, if_neg h4, if_neg h5, if_neg h6, if_neg h7, if_neg h8, if_neg h9, if_neg h10, if_neg h11]
theorem tie_cap (hG : RG T sn C.1.1 M.2.1) (c v : Int32) : p_cap C c v = zp_cap M.2.1 sn c v := by
  unfold p_cap zp_cap
  by_cases hc : c = 0 ∨ c = 1
  · rw [if_pos hc]
    obtain ⟨k, hk, rfl⟩ := two_nI hc
    have hcx := (two_r (nI k)).mp hc
    have hneg : ¬ nI k < 0 := nI_pos (by omega)
    unfold k_tcap
    rw [cix_nI hk, nI_clamp (show k < 2 ^ 31 by omega)]
    obtain ⟨hd, p0, p1, p2, p3, p4, p5, p6⟩ := hG.cap k hk
    have hv : ∀ w : Int32, 0 ≤ w ∧ w ≤ 4 → v = w → (0 ≤ nI k ∧ nI k ≤ 1) ∧ 0 ≤ v ∧ v ≤ 4 := fun w hw z => by rw [z]; exact ⟨hcx, hw⟩
    by_cases h0 : v = 0
    · rw [if_pos h0, if_pos (hv 0 (by decide) h0), if_pos h0]; exact p2.trans p3.symm
    · rw [if_neg h0]
      by_cases h1 : v = 1
      · rw [if_pos h1, if_pos (hv 1 (by decide) h1), if_neg h0, if_pos h1]
        rcases p6 with ⟨a1, a2⟩ | ⟨x, hx, a1, a2, _⟩
        · rw [a1, a2, if_pos (by decide)]
        · rw [a1, a2, if_neg (nI_pos (by omega))]
      · rw [if_neg h1]
        by_cases h2 : v = 2
        · rw [if_pos h2, if_pos (hv 2 (by decide) h2), if_neg h0, if_neg h1, if_pos h2]; exact p5.symm
        · rw [if_neg h2]
          by_cases h3 : v = 3
          · rw [if_pos h3, if_pos (hv 3 (by decide) h3), if_neg h0, if_neg h1, if_neg h2, if_pos h3]; exact hG.fleet hneg
          · rw [if_neg h3]
            by_cases h4 : v = 4
            · rw [if_pos h4, if_pos (hv 4 (by decide) h4), if_neg h0, if_neg h1, if_neg h2, if_neg h3]; exact hG.hulls hneg
            · rw [if_neg h4, if_neg (show ¬ ((0 ≤ nI k ∧ nI k ≤ 1) ∧ 0 ≤ v ∧ v ≤ 4) from fun z => by
                obtain ⟨w, hw, e⟩ := ge0 (n := 4) z.2.1 (by decide) z.2.2
                rcases (by omega : w = 0 ∨ w = 1 ∨ w = 2 ∨ w = 3 ∨ w = 4) with q | q | q | q | q <;> subst q
                · exact h0 e
                · exact h1 e
                · exact h2 e
                · exact h3 e
                · exact h4 e)]
  · rw [if_neg hc, if_neg (fun z => hc ((two_r c).mpr z.1))]
theorem tie_ship (hT : T < 2 ^ 29) (hG : RG T sn C.1.1 M.2.1) (x v : Int32) : p_ship C x v = zp_ship M.2.1 sn x v := by
  have hn := hG.n
  unfold p_ship zp_ship
  rcases hG.known x with ⟨hx, e⟩ | ⟨i, hi, rfl, e⟩
  · rw [e, if_neg (fun z => hx z.1)]
  · rw [e]
    show k_tship C.1.1 i v = _
    rw [nI_clamp (show i < 2 ^ 31 by omega)]
    have hp := hG.shp i (by omega)
    have hr := hG.shr i hi
    by_cases hv : 0 ≤ v ∧ v ≤ 10
    · rw [if_pos ⟨in_sn hi hn, hv⟩]
      obtain ⟨w, hw, rfl⟩ := ge0 (n := 10) hv.1 (by decide) hv.2
      rw [nI_clamp (show w < 2 ^ 31 by omega)]
      rcases (by omega : w = 0 ∨ w = 1 ∨ w = 2 ∨ w = 3 ∨ w = 4 ∨ w = 5 ∨ w = 6 ∨ w = 7 ∨ w = 8 ∨ w = 9 ∨ w = 10) with rfl | rfl | rfl | rfl | rfl | rfl | rfl | rfl | rfl | rfl | rfl
      · exact hr.1.symm
      · show (if 0 < shF C.1.1 i 4 then shF C.1.1 i 2 else -9) = if gx M.2.1 i 1 < 0 then -9 else gx M.2.1 i 1
        by_cases c : 0 < shF C.1.1 i 4
        · rw [if_pos c, if_neg (Int32.not_lt.mpr ((hG.fl hi).mpr c)), hG.hx hi c]
        · rw [if_neg c, if_pos (Int32.not_le.mp (fun z => c ((hG.fl hi).mp z)))]
      · exact hr.2.2.1.symm
      · exact hr.2.2.2.1.symm
      · exact hr.2.2.2.2.1.symm
      · exact hr.2.2.2.2.2.1.symm
      · exact hr.2.2.2.2.2.2.1.symm
      · show shF C.1.1 i 8 = if gx M.2.1 i 7 < 0 then -9 else gx M.2.1 i 7
        have e7 := hr.2.2.2.2.2.2.2.1
        by_cases c : shF C.1.1 i 8 = -9
        · rw [if_pos ((hG.w7 hi).mpr c), c]
        · rw [if_neg (fun z => c ((hG.w7 hi).mp z)), e7, if_neg c]
      · exact hG.now hi
      · show bI (C.1.1.1 0 < shF C.1.1 i 9) + (if C.1.1.1 0 < shF C.1.1 i 10 then 2 else 0) = (if z_may M.2.1 i 0 = true then 0 else 1) + (if z_may M.2.1 i 1 = true then 0 else 2)
        have m0 := hG.may hT hi (k := 0) (by decide)
        have m1 := hG.may hT hi (k := 1) (by decide)
        rw [Nat.add_zero] at m0
        by_cases c0 : C.1.1.1 0 < shF C.1.1 i 9
        · by_cases c1 : C.1.1.1 0 < shF C.1.1 i 10
          · rw [bI_t c0, if_pos c1, if_neg (fun z => m0.mp z c0), if_neg (fun z => m1.mp z c1)]
          · rw [bI_t c0, if_neg c1, if_neg (fun z => m0.mp z c0), if_pos (m1.mpr c1)]
        · by_cases c1 : C.1.1.1 0 < shF C.1.1 i 10
          · rw [bI_f c0, if_pos c1, if_pos (m0.mpr c0), if_neg (fun z => m1.mp z c1)]
          · rw [bI_f c0, if_neg c1, if_pos (m0.mpr c0), if_pos (m1.mpr c1)]
      · exact hr.2.2.2.2.2.2.2.2.2.2.symm
    · rw [if_neg (fun z => hv z.2)]
      have hne : ∀ w : Nat, w ≤ 10 → ¬ v = nI w := fun w hw z => hv (by rw [z]; exact ⟨nI_pos' (by omega), (nI_leI (b := 10) (by omega) (by decide)).mpr hw⟩)
      unfold k_tship
      rw [if_neg (show ¬ v = 0 from hne 0 (by decide)), if_neg (show ¬ v = 1 from hne 1 (by decide)), if_neg (show ¬ v = 2 from hne 2 (by decide)), if_neg (show ¬ v = 3 from hne 3 (by decide)), if_neg (show ¬ v = 4 from hne 4 (by decide)), if_neg (show ¬ v = 5 from hne 5 (by decide)), if_neg (show ¬ v = 6 from hne 6 (by decide)), if_neg (show ¬ v = 7 from hne 7 (by decide)), if_neg (show ¬ v = 8 from hne 8 (by decide)), if_neg (show ¬ v = 9 from hne 9 (by decide)), if_neg (show ¬ v = 10 from hne 10 (by decide))]
theorem tie_on (hG : RG T sn C.1.1 M.2.1) (x : Int32) : p_on C x = zp_on M.2.1 sn x := by
  have hn := hG.n
  unfold p_on zp_on
  by_cases hx : 0 ≤ x ∧ x < 81
  · rw [if_pos hx, if_pos ((hex_r x).mp hx)]
    obtain ⟨e, he, rfl⟩ := i_nI (n := 81) hx.1 hx.2 (by decide)
    unfold k_cont
    rw [nI_clamp (show e < 2 ^ 31 by omega)]
    have q := hG.islq he
    by_cases c : M.2.1 (12 + e) = 1
    · rw [if_pos (q.mpr c), if_pos c]
    · rw [if_neg (fun z => c (q.mp z)), if_neg c, hG.on (fun z => absurd (nI_pos' (show e < 2 ^ 31 by omega)) (by rw [z]; decide))]
      rcases z_on_cases M.2.1 sn (nI e) with w | ⟨j, hj, _, w⟩
      · rw [w]; rfl
      · rw [w]
        show shF C.1.1 j 0 = if nI j < 0 then -9 else nI j
        rw [if_neg (nI_pos (by omega))]; rfl
  · rw [if_neg hx, if_neg (fun z => hx ((hex_r x).mpr z))]
theorem tie_targets (hG : RG T sn C.1.1 M.2.1) (x side : Int32) : p_targets C x side = zp_targets M.2.1 sn x side := by
  have hn := hG.n
  unfold p_targets zp_targets
  rcases hG.known x with ⟨hx, e⟩ | ⟨i, hi, rfl, e⟩
  · rw [e, if_neg (fun z => hx z.1)]
  · rw [e]
    show (if side = 0 ∨ side = 1 then k_targets C.1.1 i side else -1) = _
    rw [nI_clamp (show i < 2 ^ 31 by omega)]
    by_cases hs : side = 0 ∨ side = 1
    · rw [if_pos hs, if_pos ⟨in_sn hi hn, (two_r side).mp hs⟩, hG.targets hi hs]
    · rw [if_neg hs, if_neg (fun z => hs ((two_r side).mpr z.2))]
theorem tie_threats (hG : RG T sn C.1.1 M.2.1) (x : Int32) : p_threats C x = zp_threats M.2.1 sn x := by
  have hn := hG.n
  unfold p_threats zp_threats
  rcases hG.known x with ⟨hx, e⟩ | ⟨i, hi, rfl, e⟩
  · rw [e, if_neg hx]
  · rw [e]
    show k_threats C.1.1 i = _
    rw [nI_clamp (show i < 2 ^ 31 by omega), if_pos (in_sn hi hn), hG.threats hi]
theorem tie_strength (hG : RG T sn C.1.1 M.2.1) (c : Int32) : p_strength C c = zp_strength M.2.1 sn c := by
  unfold p_strength zp_strength
  by_cases hc : c = 0 ∨ c = 1
  · rw [if_pos hc, if_pos ((two_r c).mp hc), hG.strength (by rcases hc with rfl | rfl <;> decide)]
  · rw [if_neg hc, if_neg (fun z => hc ((two_r c).mpr z))]
theorem tie_hits (hG : RG T sn C.1.1 M.2.1) (x side y : Int32) : p_hits C x side y = zp_hits M.2.1 sn x side y := by
  have hn := hG.n
  unfold p_hits zp_hits
  rcases hG.known x with ⟨hx, e⟩ | ⟨i, hi, rfl, e⟩
  · rw [e, if_neg (fun z => hx z.1.1)]
  · rw [e]
    rcases hG.known y with ⟨hy, e2⟩ | ⟨j, hj, rfl, e2⟩
    · rw [e2, if_neg (fun z => hy z.1.2.1)]
    · rw [e2]
      show (if ¬ nI i = nI j ∧ (side = 0 ∨ side = 1) then (if k_shot C.1.1 i side j = 0 then -9 else k_hits (shF C.1.1 i) (k_shot C.1.1 i side j)) else -1) = _
      rw [nI_clamp (show i < 2 ^ 31 by omega), nI_clamp (show j < 2 ^ 31 by omega)]
      by_cases hs : side = 0 ∨ side = 1
      · by_cases hne : nI i = nI j
        · rw [if_neg (fun z => z.1 hne), if_neg (fun z => z.1.2.2 hne)]
        · rw [if_pos ⟨hne, hs⟩, if_pos (show ((0 ≤ nI i ∧ nI i < nI sn) ∧ (0 ≤ nI j ∧ nI j < nI sn) ∧ ¬ nI i = nI j) ∧ 0 ≤ side ∧ side ≤ 1 from ⟨⟨in_sn hi hn, in_sn hj hn, hne⟩, (two_r side).mp hs⟩), hG.shot hi hs hj]
          by_cases c : z_far M.2.1 sn i side j = 0
          · rw [if_pos c, if_pos c]
          · rw [if_neg c, if_neg c, hG.hits hi]
      · rw [if_neg (fun z => hs z.2), if_neg (fun z => hs ((two_r side).mpr z.2))]
theorem tie_wind (hG : RG T sn C.1.1 M.2.1) (x y : Int32) : p_wind C x y = zp_wind M.2.1 x y := by
  unfold p_wind zp_wind
  by_cases hc : (0 ≤ x ∧ x < 6) ∧ 0 ≤ y ∧ y < 6
  · rw [if_pos hc, if_pos ⟨(six_r x).mp hc.1, (six_r y).mp hc.2⟩]
    unfold k_dir k_str
    rw [← hG.s2, ← Int32.add_assoc, ← Int32.add_assoc]
  · rw [if_neg hc, if_neg (fun z => hc ⟨(six_r x).mpr z.1, (six_r y).mpr z.2⟩)]
end TD
