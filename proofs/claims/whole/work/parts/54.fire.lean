/-! THE TIE: repair, fire -/
section TM
variable {T sn : Nat} {dn : Nat → Int32 → Int32} {G : Gm} {s : Nat → Int32} {M : Mm}
theorem RGd.pTimber (h : RGd T sn dn G s) {c : Nat} (hc : c < 2) {v : Int32} (hv : nB v 100) : RGd T sn dn (sK G c 2 v) (upd s (8 + c) v) := by
  obtain ⟨hd, p0, p1, p2, p3, p4, p5, p6⟩ := h.cap c hc
  refine h.capt hc (fun j hj h4 h6 h8 => pk_un h8) ⟨hd, p0, p1, ?_, ?_, ?_, ?_, ?_⟩
  · rw [cF_sC (by decide), pk_un (by decide)]; exact p2
  · rw [pk_un (by omega)]; exact p3
  · rw [cF_sC (by decide), pk_us]; exact hv
  · rw [cF_sC (by decide), pk_us, pk_us]
  · rw [cF_sC (by decide), pk_un (by decide), pk_un (show 6 + c ≠ 8 + c by omega), show (sC G c (upd (cF G c) 2 v)).1 1 = G.1 1 from if_neg (by omega)]
    exact p6
/-- a gain of a repair: as a number -/
theorem gain_nI {a b : Nat} (hb : b ≤ 20) (ha : a < 41) {t : Nat} (ht : t < 100) : ∃ g, g ≤ t ∧ b + g ≤ 20 ∧ kmin (nI t) (kmin (nI a / 4) (20 - nI b)) = nI g ∧ (if nI t < (if nI a / 4 < 20 - nI b then nI a / 4 else 20 - nI b) then nI t else (if nI a / 4 < 20 - nI b then nI a / 4 else 20 - nI b)) = nI g := by
  rw [kmin_lt, kmin_lt, show (4 : Int32) = nI 4 from rfl, show (20 : Int32) = nI 20 from rfl, pk_div (by omega) (by decide) (by decide), pk_sub hb]
  by_cases c : nI (a / 4) < nI (20 - b)
  · rw [if_pos c]
    have c' := (nI_ltI (by omega) (by omega)).mp c
    by_cases c2 : nI t < nI (a / 4)
    · rw [if_pos c2]
      have := (nI_ltI (by omega) (by omega)).mp c2
      exact ⟨t, Nat.le_refl _, by omega, rfl, rfl⟩
    · rw [if_neg c2]
      have : ¬ t < a / 4 := fun z => c2 ((nI_ltI (by omega) (by omega)).mpr z)
      exact ⟨a / 4, by omega, by omega, rfl, rfl⟩
  · rw [if_neg c]
    by_cases c2 : nI t < nI (20 - b)
    · rw [if_pos c2]
      have := (nI_ltI (by omega) (by omega)).mp c2
      exact ⟨t, Nat.le_refl _, by omega, rfl, rfl⟩
    · rw [if_neg c2]
      have : ¬ t < 20 - b := fun z => c2 ((nI_ltI (by omega) (by omega)).mpr z)
      exact ⟨20 - b, by omega, by omega, rfl, rfl⟩
theorem mend_rows (s : Nat → Int32) {i c k : Nat} (hi : i < 8) (hc : c < 2) (hk : k < 10) (tv v dv : Int32) : px (px (upd s (8 + c) tv) i k v) i 10 dv = px (upd (px s i k v) (8 + c) tv) i 10 dv := by
  unfold px
  rw [upd_cm s (show 8 + c ≠ 93 + 11 * i + k by omega)]
/-- all three repairs alike: a field grows, timber goes, it is noted -/
theorem RGd.mendq (h : RGd T sn dn G s) {i c j k : Nat} (hi : i < sn) (hc : c < 2) (hj : j ≠ 0) (hj2 : j ≠ 11) (hk : k < 10) {v tv : Int32} (hp : RGd T sn dn (sF G i j v) (px s i k v)) (ht : nB tv 100) (h11 : shF G i 11 = 0) (hdn : dn i 4 = 4) : RGd T sn dn (sF (sK (sF G i j v) c 2 tv) i 11 (shF (sK (sF G i j v) c 2 tv) i 11 ||| 4)) (px (px (upd s (8 + c) tv) i k v) i 10 4) := by
  have hn := h.n
  have h2 := hp.pTimber hc ht
  have e : shF (sK (sF G i j v) c 2 tv) i 11 = 0 := by
    show shF (sF G i j v) i 11 = 0
    rw [shF_sFe _ _ hj, pk_un (fun z => hj2 z.symm)]; exact h11
  rw [e, show (0 : Int32) ||| 4 = 4 from rfl, mend_rows s (by omega) hc hk]
  have h3 := h2.pDone hi (v := 4) ⟨4, by decide, rfl⟩
  rw [hdn] at h3
  exact h3
theorem sim_rep (h : RG T sn G M.2.1) (m : Nat) (x w : Int32) : SIM T (k_mend G x w) M m (zw_rep M sn m x w) := by
  have hn := h.n
  unfold k_mend zw_rep
  rcases h.known x with ⟨hx, e⟩ | ⟨i, hi, rfl, e⟩
  · rw [e, if_neg (fun z => hx z.1)]
    exact SIM.err h (by decide) m
  · rw [e]
    dsimp only
    by_cases hw : 0 ≤ w ∧ w ≤ 2
    · rw [if_pos hw, if_pos (show (0 ≤ nI i ∧ nI i < nI sn) ∧ 0 ≤ w ∧ w ≤ 2 from ⟨in_sn hi hn, hw⟩), nI_clamp (show i < 2 ^ 31 by omega)]
      have hp := h.shp i (by omega)
      have hr := h.shr i hi
      obtain ⟨cc, hcc, ecc⟩ := hp.1
      rw [hr.1, ecc, nI_clamp (show cc < 2 ^ 31 by omega)]
      obtain ⟨hd, p0, p1, p2, p3, p4, p5, p6⟩ := h.cap cc hcc
      obtain ⟨t, ht, et⟩ := p4
      obtain ⟨hl, hhl, ehl⟩ := hp.2.2.2.1
      obtain ⟨sl, hsl, esl⟩ := hp.2.2.2.2.1
      obtain ⟨cr, hcr, ecr⟩ := hp.2.2.2.2.2.1
      obtain ⟨gn, hgn, egn⟩ := hp.2.2.2.2.2.2.1
      have im : ¬ G.1 1 = 0 ↔ M.2.1 1 = 1 := by
        rw [h.s1]
        rcases h.mv with e | e
        · rw [e]; exact ⟨fun z => absurd rfl z, fun z => absurd z (by decide)⟩
        · rw [e]; exact ⟨fun _ => rfl, fun _ => by decide⟩
      -- the gain, and what is built of it
      have key : ∃ g, k_mamt G i w = nI g ∧ z_gain M.2.1 i cc w = nI g ∧ g < 2 ^ 31 ∧ (g ≠ 0 → 0 < shF G i 4 → shF G i 11 = 0 → RG T sn (k_msets G i w (nI g)) (z_rp M.2.1 i cc w (nI g))) := by
        unfold k_mamt
        rw [ecc, cix_nI hcc, et]
        unfold k_mendable z_gain z_rp k_msets k_madd z_of z_cost
        rw [ecc, cix_nI hcc, p5, et, hr.2.2.2.1, hr.2.2.2.2.1, hr.2.2.2.2.2.1, hr.2.2.2.2.2.2.1, ehl, esl, ecr, egn]
        dsimp only
        by_cases w0 : w = 0
        · subst w0
          obtain ⟨g, hg1, hg2, hg3, hg4⟩ := gain_nI (a := cr) (b := hl) (by omega) hcr ht
          refine ⟨g, ?_, ?_, by omega, fun hg0 hf h11 => ?_⟩
          · rw [if_pos rfl]; exact hg3
          · rw [if_neg (show ¬ (0 : Int32) = 1 by decide), if_neg (show ¬ (0 : Int32) = 2 by decide)]; exact hg4
          · rw [if_pos rfl, if_pos rfl, if_pos rfl, show (0 : Int32) + 1 = 1 from rfl, Int32.mul_one, nI_add, show ∀ (u : Int32), cF (sF G i 4 u) cc 2 = nI t from fun u => et, show gx (upd M.2.1 (8 + cc) (nI t - nI g)) i 3 = nI hl from (pk_un (by omega)).trans (hr.2.2.2.1.trans ehl), nI_add]
            have n0 : ¬ shF G i 4 = 0 := fun z => by rw [← ehl, z] at hf; exact absurd hf (by decide)
            have q := h.pHull hi (v := nI (hl + g)) ⟨hl + g, by omega, rfl⟩ (nI_ne0 (by omega) (by omega)) n0
            refine h.mendq hi hcc (by decide) (by decide) (by decide) q ?_ h11 rfl
            rw [pk_sub hg1]
            exact ⟨t - g, by omega, rfl⟩
        · by_cases w1 : w = 1
          · subst w1
            rw [if_neg (show ¬ (1 : Int32) = 0 by decide), if_pos rfl, if_pos rfl]
            by_cases c : nI sl < 8 ∧ 2 ≤ nI t
            · rw [if_pos c]
              refine ⟨1, rfl, rfl, by decide, fun hg0 hf h11 => ?_⟩
              rw [if_neg (show ¬ (1 : Int32) = 0 by decide), if_pos rfl, if_neg (show ¬ (1 : Int32) = 0 by decide), if_neg (show ¬ (1 : Int32) = 0 by decide), if_pos rfl, show nI 1 * (1 + 1) = nI 2 from rfl, show (1 : Int32) + 1 = nI 2 from rfl, show ∀ (u : Int32), cF (sF G i 5 u) cc 2 = nI t from fun u => et, show gx (upd M.2.1 (8 + cc) (nI t - nI 2)) i 4 = nI sl from (pk_un (by omega)).trans (hr.2.2.2.2.1.trans esl), nI_add]
              have c1 := (nI_ltI (b := 8) (by omega) (by decide)).mp c.1
              have c2 := (nI_leI (a := 2) (by decide) (by omega)).mp c.2
              have q := h.pSail hi (v := nI (sl + 1)) ⟨sl + 1, by omega, rfl⟩
              refine h.mendq hi hcc (by decide) (by decide) (by decide) q ?_ h11 rfl
              rw [pk_sub c2]
              exact ⟨t - 2, by omega, rfl⟩
            · rw [if_neg c]
              exact ⟨0, rfl, rfl, by decide, fun hg0 => absurd rfl hg0⟩
          · have w2 : w = 2 := by
              obtain ⟨k, hk, ek⟩ := ge0 (n := 2) hw.1 (by decide) hw.2
              rcases (by omega : k = 0 ∨ k = 1 ∨ k = 2) with z | z | z <;> subst z
              · exact absurd ek w0
              · exact absurd ek w1
              · exact ek
            subst w2
            rw [if_neg (show ¬ (2 : Int32) = 0 by decide), if_neg (show ¬ (2 : Int32) = 1 by decide), if_neg (show ¬ (2 : Int32) = 1 by decide), if_pos rfl]
            by_cases c : nI gn < 9 ∧ 3 ≤ nI t
            · rw [if_pos c]
              refine ⟨1, rfl, rfl, by decide, fun hg0 hf h11 => ?_⟩
              rw [if_neg (show ¬ (2 : Int32) = 0 by decide), if_neg (show ¬ (2 : Int32) = 1 by decide), if_neg (show ¬ (2 : Int32) = 0 by decide), if_neg (show ¬ (2 : Int32) = 0 by decide), if_neg (show ¬ (2 : Int32) = 1 by decide), show nI 1 * (2 + 1) = nI 3 from rfl, show (2 : Int32) + 1 = nI 3 from rfl, show ∀ (u : Int32), cF (sF G i 7 u) cc 2 = nI t from fun u => et, show gx (upd M.2.1 (8 + cc) (nI t - nI 3)) i 6 = nI gn from (pk_un (by omega)).trans (hr.2.2.2.2.2.2.1.trans egn), nI_add]
              have c1 := (nI_ltI (b := 9) (by omega) (by decide)).mp c.1
              have c2 := (nI_leI (a := 3) (by decide) (by omega)).mp c.2
              have q := h.pGuns hi (v := nI (gn + 1)) ⟨gn + 1, by omega, rfl⟩
              refine h.mendq hi hcc (by decide) (by decide) (by decide) q ?_ h11 rfl
              rw [pk_sub c2]
              exact ⟨t - 3, by omega, rfl⟩
            · rw [if_neg c]
              exact ⟨0, rfl, rfl, by decide, fun hg0 => absurd rfl hg0⟩
      obtain ⟨g, k1, k2, k3, k4⟩ := key
      unfold zw_rep2
      rw [k1, k2]
      have r10 : gx M.2.1 i 10 = shF G i 11 := hr.2.2.2.2.2.2.2.2.2.2
      by_cases c : G.1 1 = 0 ∨ ¬ 0 < shF G i 4 ∨ ¬ shF G i 8 = -9 ∨ ¬ shF G i 11 = 0 ∨ nI g ≤ 0
      · rw [if_pos c, if_neg]
        · exact SIM.err h (by decide) m
        · rintro ⟨z1, z2, z3, z4, z5⟩
          rcases c with c | c | c | c | c
          · exact im.mpr z1 c
          · exact c ((h.fl hi).mp z2)
          · exact c ((h.w7 hi).mp z3)
          · exact c (r10.symm.trans z4)
          · exact z5 (by rw [(nI_le0 k3).mp c]; rfl)
      · have c1 : ¬ G.1 1 = 0 := fun z => c (Or.inl z)
        have c2 : 0 < shF G i 4 := Classical.byContradiction (fun z => c (Or.inr (Or.inl z)))
        have c3 : shF G i 8 = -9 := Classical.byContradiction (fun z => c (Or.inr (Or.inr (Or.inl z))))
        have c4 : shF G i 11 = 0 := Classical.byContradiction (fun z => c (Or.inr (Or.inr (Or.inr (Or.inl z)))))
        have c5 : ¬ nI g ≤ 0 := fun z => c (Or.inr (Or.inr (Or.inr (Or.inr z))))
        have g0 : g ≠ 0 := fun z => c5 (by rw [z]; decide)
        rw [if_neg c, if_pos ⟨im.mp c1, (h.fl hi).mpr c2, (h.w7 hi).mpr c3, r10.trans c4, nI_ne0 (by omega) k3⟩]
        refine SIM.ok (k4 g0 c2 c4) (fun j hj => ?_) rfl (nI_pos' k3) m
        unfold z_rp
        rw [px_hi _ (by omega) (by decide) _ hj, px_hi _ (by omega) (by unfold z_of; split; decide; split <;> decide) _ hj, pk_un (by omega)]
    · rw [if_neg hw, if_neg (fun z => hw z.2)]
      exact SIM.err h (by decide) m
end TM
