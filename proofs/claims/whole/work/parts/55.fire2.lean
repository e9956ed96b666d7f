/-! THE TIE: fire -/
/-- what is lost: nothing becomes less than 0 -/
theorem lose_nI {a h : Nat} (ha : a < 2 ^ 30) (hh : h < 2 ^ 30) : kmax 0 (nI a - nI h) = nI (a - h) ∧ (if nI a - nI h < 0 then 0 else nI a - nI h) = nI (a - h) := by
  rw [kmax0]
  refine ⟨?_, ?_⟩ <;>
  · by_cases c : h ≤ a
    · rw [pk_sub c, if_neg (nI_pos (by omega))]
    · rw [if_pos (pk_sneg hh (by omega)), show a - h = 0 by omega]; rfl
theorem upd_c3 (f : Nat → Int32) (a b c d : Int32) : upd (upd (upd (upd f 4 a) 6 b) 5 c) 7 d = upd (upd (upd (upd f 6 b) 5 c) 7 d) 4 a := by
  rw [upd_cm f (show (4 : Nat) ≠ 6 by decide), upd_cm _ (show (4 : Nat) ≠ 5 by decide), upd_cm _ (show (4 : Nat) ≠ 7 by decide)]
section TN
variable {T sn : Nat} {dn : Nat → Int32 → Int32} {G : Gm} {s : Nat → Int32} {M : Mm}
/-- the hull goes: it is sunk -/
theorem RGd.pSunk (h : RGd T sn dn G s) {a : Nat} (ha : a < sn) : RGd T sn dn (sF G a 4 0) (px (px s a 3 0) a 1 (-1)) := by
  have hn := h.n
  have hp := h.shp a (by omega)
  have hr := h.shr a ha
  have e : ∀ l, l < 11 → l ≠ 3 → l ≠ 1 → gx (px (px s a 3 0) a 1 (-1)) a l = gx s a l := fun l h1 h2 h3 => by
    rw [gx_px (by decide) h1 h3, gx_px (by decide) h1 h2]
  refine h.ship (Nat.le_refl T) ha (pk_un (by decide)) ⟨hp.1, hp.2.1, hp.2.2.1, ⟨0, by decide, rfl⟩, hp.2.2.2.2⟩ (fun q hq => by rw [px_lo _ _ _ _ hq, px_lo _ _ _ _ hq]) (fun b hb hne l hl => by rw [gx_pxi (by decide) hl hne, gx_pxi (by decide) hl hne]) (fun _ _ _ => rfl) ⟨?_, ?_, ?_, ?_, ?_, ?_, ?_, ?_, ?_, ?_, ?_⟩
  · rw [e 0 (by decide) (by decide) (by decide)]; exact hr.1
  · rw [gx_pxe]; exact (if_pos rfl).symm
  · rw [e 2 (by decide) (by decide) (by decide)]; exact hr.2.2.1
  · rw [gx_px (by decide) (by decide) (by decide), gx_pxe]; rfl
  · rw [e 4 (by decide) (by decide) (by decide)]; exact hr.2.2.2.2.1
  · rw [e 5 (by decide) (by decide) (by decide)]; exact hr.2.2.2.2.2.1
  · rw [e 6 (by decide) (by decide) (by decide)]; exact hr.2.2.2.2.2.2.1
  · rw [e 7 (by decide) (by decide) (by decide)]; exact hr.2.2.2.2.2.2.2.1
  · rw [e 8 (by decide) (by decide) (by decide)]; exact hr.2.2.2.2.2.2.2.2.1
  · rw [e 9 (by decide) (by decide) (by decide)]; exact hr.2.2.2.2.2.2.2.2.2.1
  · rw [e 10 (by decide) (by decide) (by decide)]; exact hr.2.2.2.2.2.2.2.2.2.2
/-- a shot is noted -/
theorem RGd.pNote (h : RGd T sn dn G s) {i k : Nat} (hi : i < sn) (hk : k < 2) {t v : Nat} (ht : t ≤ T) (hv : v < 8) (e0 : G.1 0 = nI t) (e11 : shF G i 11 = nI v) (hdn : ∀ q, dn i q = q) : RGd T sn dn (sS G i (k_note (shF G i) (nI k) (G.1 0))) (px (px s i (8 + k) (nI t)) i 10 (nI v ||| 2)) := by
  obtain ⟨_, _, ⟨w, f2⟩, _⟩ := done_fin ⟨v, hv⟩
  have step : ∀ (j : Nat) (s2 : Nat → Int32), j ≠ 0 → j ≠ 11 → RGd T sn dn (sF G i j (nI (t + 2))) s2 → RGd T sn dn (sS G i (upd (upd (shF G i) j (nI (t + 2))) 11 (nI v ||| 2))) (px s2 i 10 (nI v ||| 2)) := fun j s2 hj hj2 q => by
    have q2 := q.pDone hi (v := nI v ||| 2) ⟨w.1, w.2, f2⟩
    rw [hdn] at q2
    rw [show sS G i (upd (upd (shF G i) j (nI (t + 2))) 11 (nI v ||| 2)) = sF (sF G i j (nI (t + 2))) i 11 (nI v ||| 2) from (sF_sS (G := G) (i := i) (F := upd (shF G i) j (nI (t + 2))) (pk_un (fun z => hj z.symm)) 11 (nI v ||| 2)).symm]
    exact q2
  unfold k_note
  rw [e0, e11, show nI t + 2 = nI (t + 2) from nI_add t 2]
  rcases (by omega : k = 0 ∨ k = 1) with rfl | rfl
  · rw [if_pos (show nI 0 = 0 from rfl)]
    exact step 9 _ (by decide) (by decide) (h.pLeft hi ht)
  · rw [if_neg (show ¬ nI 1 = 0 by decide)]
    exact step 10 _ (by decide) (by decide) (h.pRight hi ht)
theorem sim_fire (hT : T < 2 ^ 29) (h : RG T sn G M.2.1) (m : Nat) (x side y : Int32) : SIM T (k_fire G x side y) M m (zw_fire M sn m x side y) := by
  have hn := h.n
  unfold k_fire zw_fire
  rcases h.known x with ⟨hx, e⟩ | ⟨i, hi, rfl, e⟩
  · rw [e, if_neg (fun z => hx z.1.1)]
    exact SIM.err h (by decide) m
  · rw [e]
    rcases h.known y with ⟨hy, e2⟩ | ⟨j, hj, rfl, e2⟩
    · rw [e2, if_neg (fun z => hy z.1.2.1)]
      exact SIM.err h (by decide) m
    · rw [e2]
      dsimp only
      by_cases q : nI i = nI j ∨ ¬ (side = 0 ∨ side = 1)
      · rw [if_pos q, if_neg (fun z => q.elim z.1.2.2 (fun y => y ((two_r side).mpr z.2)))]
        exact SIM.err h (by decide) m
      · have hne : ¬ nI i = nI j := fun z => q (Or.inl z)
        have hs : side = 0 ∨ side = 1 := Classical.byContradiction (fun z => q (Or.inr z))
        have hij : i ≠ j := fun z => hne (by rw [z])
        rw [if_neg q, if_pos (show ((0 ≤ nI i ∧ nI i < nI sn) ∧ (0 ≤ nI j ∧ nI j < nI sn) ∧ ¬ nI i = nI j) ∧ 0 ≤ side ∧ side ≤ 1 from ⟨⟨in_sn hi hn, in_sn hj hn, hne⟩, (two_r side).mp hs⟩), nI_clamp (show i < 2 ^ 31 by omega), nI_clamp (show j < 2 ^ 31 by omega), h.shot hi hs hj]
        obtain ⟨k, hk, rfl⟩ := two_nI hs
        rw [nI_clamp (show k < 2 ^ 31 by omega)]
        unfold zw_fire2
        rw [h.s1]
        have hm := h.may hT hi hk
        have hrd : (if nI k = 0 then shF G i 9 else shF G i 10) = shF G i (9 + k) := by
          rcases (by omega : k = 0 ∨ k = 1) with rfl | rfl
          · exact if_pos rfl
          · exact if_neg (by decide)
        rw [hrd]
        by_cases c : G.1 1 = 0 ∨ ¬ 0 < shF G i 4 ∨ G.1 0 < shF G i (9 + k) ∨ z_far M.2.1 sn i (nI k) j = 0
        · rw [if_pos c, if_neg]
          · exact SIM.err h (by decide) m
          · rintro ⟨z1, z2, z3⟩
            rcases c with c | c | c | c
            · exact z1 c
            · exact z2 (by unfold z_far; rw [if_neg (fun z => c ((h.fl hi).mp z.1))])
            · exact hm.mp z3 c
            · exact z2 c
        · have c1 : ¬ G.1 1 = 0 := fun z => c (Or.inl z)
          have c2 : 0 < shF G i 4 := Classical.byContradiction (fun z => c (Or.inr (Or.inl z)))
          have c3 : ¬ G.1 0 < shF G i (9 + k) := fun z => c (Or.inr (Or.inr (Or.inl z)))
          have c4 : ¬ z_far M.2.1 sn i (nI k) j = 0 := fun z => c (Or.inr (Or.inr (Or.inr z)))
          rw [if_neg c, if_pos ⟨c1, c4, hm.mpr c3⟩, h.hits hi]
          -- the target floats
          have hfj : 0 < shF G j 4 := by
            have hz : ∃ p, p < 2 ∧ (z_ln M.2.1 sn i (z_wy M.2.1 i (nI k) p)).1 = nI j := by
              unfold z_far at c4
              by_cases a : 0 ≤ gx M.2.1 i 1 ∧ ¬ gx M.2.1 i 0 = gx M.2.1 j 0
              · rw [if_pos a, z_fr_s] at c4
                by_cases b : (z_ln M.2.1 sn i (z_wy M.2.1 i (nI k) 0)).1 = nI j
                · exact ⟨0, by decide, b⟩
                · rw [if_neg b, z_fr_s] at c4
                  by_cases b2 : (z_ln M.2.1 sn i (z_wy M.2.1 i (nI k) (0 + 1))).1 = nI j
                  · exact ⟨0 + 1, by decide, b2⟩
                  · rw [if_neg b2] at c4
                    exact absurd rfl c4
              · rw [if_neg a] at c4
                exact absurd rfl c4
            obtain ⟨p, _, hp⟩ := hz
            have who : ∀ (n f : Nat) (x d : Int32), (z_line M.2.1 sn d n f x).1 = nI j → 0 ≤ gx M.2.1 j 1 := fun n => by
              induction n with
              | zero => exact fun f x d z => absurd (nI_pos' (show j < 2 ^ 31 by omega)) (by rw [← z]; show ¬ (0 : Int32) ≤ -1; decide)
              | succ n ih =>
                intro f x d z
                rw [z_line_s] at z
                by_cases a : z_next x d < 0 ∨ M.2.1 (12 + (z_next x d).toNatClampNeg) = 1
                · rw [if_pos a] at z
                  exact absurd (nI_pos' (show j < 2 ^ 31 by omega)) (by rw [← z]; show ¬ (0 : Int32) ≤ -1; decide)
                · rw [if_neg a] at z
                  rcases z_on_cases M.2.1 sn (z_next x d) with w | ⟨j2, hj2, g, w⟩
                  · rw [w] at z; exact ih _ _ _ z
                  · rw [w] at z
                    have : j2 = j := (nI_eq (by omega) (by omega)).mp z
                    subst this
                    rw [g]
                    exact Int32.not_lt.mp (fun y => a (Or.inl y))
            exact (h.fl hj).mp (who 3 1 _ _ hp)
          -- numbers
          have hpi := h.shp i (by omega)
          have hpj := h.shp j (by omega)
          have hri := h.shr i hi
          have hrj := h.shr j hj
          obtain ⟨t, ht, et⟩ := h.tB
          obtain ⟨dv, hdv, edv⟩ := hpi.2.2.2.2.2.2.2.2.2.2
          obtain ⟨hl, hhl, ehl⟩ := hpj.2.2.2.1
          obtain ⟨sl, hsl, esl⟩ := hpj.2.2.2.2.1
          obtain ⟨cr, hcr, ecr⟩ := hpj.2.2.2.2.2.1
          obtain ⟨gn, hgn, egn⟩ := hpj.2.2.2.2.2.2.1
          have hh : ∃ b, b < 2 ^ 20 ∧ z_hits M.2.1 i (z_far M.2.1 sn i (nI k) j) = nI b := by
            obtain ⟨f, hf, ef⟩ : ∃ f, f ≤ 4 ∧ z_far M.2.1 sn i (nI k) j = nI f := by
              unfold z_far
              split
              · rw [z_fr_s]
                split
                · exact ⟨_, (z_line_far M.2.1 sn (z_wy M.2.1 i (nI k) 0) 3 1 (gx M.2.1 i 1)).2, rfl⟩
                · rw [z_fr_s]
                  split
                  · exact ⟨_, (z_line_far M.2.1 sn (z_wy M.2.1 i (nI k) (0 + 1)) 3 1 (gx M.2.1 i 1)).2, rfl⟩
                  · exact ⟨0, by decide, rfl⟩
              · exact ⟨0, by decide, rfl⟩
            obtain ⟨gi, hgi, egi⟩ := hpi.2.2.2.2.2.2.1
            obtain ⟨ci, hci, eci⟩ := hpi.2.2.2.2.2.1
            unfold z_hits
            rw [hri.2.2.2.2.2.2.1, hri.2.2.2.2.2.1, egi, eci, ef, show (4 : Int32) = nI 4 from rfl, pk_sub hf]
            obtain ⟨c8, hc8, ec8⟩ : ∃ c8, c8 ≤ 40 ∧ (if 8 < nI ci then 8 else nI ci) = nI c8 := by
              by_cases a : (8 : Int32) < nI ci
              · rw [if_pos a]; exact ⟨8, by decide, rfl⟩
              · rw [if_neg a]; exact ⟨ci, by omega, rfl⟩
            rw [ec8, pk_mul, pk_mul, show (8 : Int32) = nI 8 from rfl]
            have h1 : gi * (4 - f) * c8 ≤ 9 * 4 * 40 := Nat.mul_le_mul (Nat.mul_le_mul (by omega) (by omega)) hc8
            rw [pk_div (by omega) (by decide) (by decide)]
            exact ⟨_, by omega, rfl⟩
          obtain ⟨b, hb, eb⟩ := hh
          rw [eb]
          have b3 : nI b / 3 = nI (b / 3) := by rw [show (3 : Int32) = nI 3 from rfl, pk_div (by omega) (by decide) (by decide)]
          have b4 : nI b / 4 = nI (b / 4) := by rw [show (4 : Int32) = nI 4 from rfl, pk_div (by omega) (by decide) (by decide)]
          have b6 : nI b / 6 = nI (b / 6) := by rw [show (6 : Int32) = nI 6 from rfl, pk_div (by omega) (by decide) (by decide)]
          have l3 := lose_nI (a := hl) (h := b) (by omega) (by omega)
          have l5 := lose_nI (a := cr) (h := b / 3) (by omega) (by omega)
          have l4 := lose_nI (a := sl) (h := b / 4) (by omega) (by omega)
          have l6 := lose_nI (a := gn) (h := b / 6) (by omega) (by omega)
          have hsuf : k_suffer (shF G j) (nI b) = upd (upd (upd (upd (shF G j) 4 (nI (hl - b))) 6 (nI (cr - b / 3))) 5 (nI (sl - b / 4))) 7 (nI (gn - b / 6)) := by
            unfold k_suffer
            rw [ehl, ecr, esl, egn, b3, b4, b6, l3.1, l5.1, l4.1, l6.1]
          have hz4 : z_lose (z_lose (z_lose (z_lose M.2.1 j 3 (nI b)) j 5 (nI b / 3)) j 4 (nI b / 4)) j 6 (nI b / 6) = px (px (px (px M.2.1 j 3 (nI (hl - b))) j 5 (nI (cr - b / 3))) j 4 (nI (sl - b / 4))) j 6 (nI (gn - b / 6)) := by
            unfold z_lose
            rw [gx_px (s := M.2.1) (k := 3) (l := 5) (by decide) (by decide) (by decide), hrj.2.2.2.1, hrj.2.2.2.2.2.1, ehl, ecr, b3, l3.2, l5.2]
            rw [gx_px (l := 4) (by decide) (by decide) (by decide), gx_px (l := 4) (by decide) (by decide) (by decide), hrj.2.2.2.2.1, esl, b4, l4.2]
            rw [gx_px (l := 6) (by decide) (by decide) (by decide), gx_px (l := 6) (by decide) (by decide) (by decide), gx_px (l := 6) (by decide) (by decide) (by decide), hrj.2.2.2.2.2.2.1, egn, b6, l6.2]
          have n0 : ¬ shF G j 4 = 0 := fun z => by rw [z] at hfj; exact absurd hfj (by decide)
          have hseq : ∀ (G : Gm) (F : Nat → Int32), F 0 = nI j → ∀ (q : Nat) (v : Int32), sF (sS G j F) j q v = sS G j (upd F q v) := fun G F h0 q v => sF_sS h0 q v
          have t0 : M.2.1 0 = nI t := h.s0.trans et
          have hi8 : i < 8 := by omega
          have hj8 : j < 8 := by omega
          unfold k_fsets z_fs
          dsimp only
          rw [hsuf, hz4]
          have hshv : shF (sS G j (upd (upd (upd (upd (shF G j) 4 (nI (hl - b))) 6 (nI (cr - b / 3))) 5 (nI (sl - b / 4))) 7 (nI (gn - b / 6)))) j 4 = nI (hl - b) := by
            rw [shF_sS (by rw [pk_un (by decide), pk_un (by decide), pk_un (by decide), pk_un (by decide)]; rfl)]; rfl
          rw [hshv]
          have hs40 : px (px (px (px M.2.1 j 3 (nI (hl - b))) j 5 (nI (cr - b / 3))) j 4 (nI (sl - b / 4))) j 6 (nI (gn - b / 6)) 0 = nI t := by
            rw [px_lo _ _ _ _ (by decide), px_lo _ _ _ _ (by decide), px_lo _ _ _ _ (by decide), px_lo _ _ _ _ (by decide)]; exact t0
          have h10 : gx (px (px (px (px (px M.2.1 j 3 (nI (hl - b))) j 5 (nI (cr - b / 3))) j 4 (nI (sl - b / 4))) j 6 (nI (gn - b / 6))) i (8 + k) (nI t)) i 10 = nI dv := by
            rw [gx_px (by omega) (by decide) (by omega), gx_pxi (by decide) (by decide) hij, gx_pxi (by decide) (by decide) hij, gx_pxi (by decide) (by decide) hij, gx_pxi (by decide) (by decide) hij]
            exact hri.2.2.2.2.2.2.2.2.2.2.trans edv
          have h3 : gx (px (px (px (px (px (px M.2.1 j 3 (nI (hl - b))) j 5 (nI (cr - b / 3))) j 4 (nI (sl - b / 4))) j 6 (nI (gn - b / 6))) i (8 + k) (nI t)) i 10 (nI dv ||| 2)) j 3 = nI (hl - b) := by
            rw [gx_pxi (by decide) (by decide) (Ne.symm hij), gx_pxi (by omega) (by decide) (Ne.symm hij), gx_px (by decide) (by decide) (by decide), gx_px (by decide) (by decide) (by decide), gx_px (by decide) (by decide) (by decide), gx_pxe]
          rw [hs40, h10, h3]
          have hhi : ∀ q, 181 ≤ q → px (px (px (px (px (px M.2.1 j 3 (nI (hl - b))) j 5 (nI (cr - b / 3))) j 4 (nI (sl - b / 4))) j 6 (nI (gn - b / 6))) i (8 + k) (nI t)) i 10 (nI dv ||| 2) q = M.2.1 q := fun q hq => by
            rw [px_hi _ hi8 (by decide) _ hq, px_hi _ hi8 (by omega) _ hq, px_hi _ hj8 (by decide) _ hq, px_hi _ hj8 (by decide) _ hq, px_hi _ hj8 (by decide) _ hq, px_hi _ hj8 (by decide) _ hq]
          by_cases hz : hl - b = 0
          · -- it is sunk
            rw [hz, if_neg (show ¬ (0 : Int32) < nI 0 by decide), if_pos (show nI 0 = 0 from rfl)]
            have r1 := h.pCrew hj (v := nI (cr - b / 3)) ⟨_, by omega, rfl⟩
            have r2 := r1.pSail hj (v := nI (sl - b / 4)) ⟨_, by omega, rfl⟩
            have r3 := r2.pGuns hj (v := nI (gn - b / 6)) ⟨_, by omega, rfl⟩
            have r4 := r3.pSunk hj
            have eG : sF (sF (sF (sF G j 6 (nI (cr - b / 3))) j 5 (nI (sl - b / 4))) j 7 (nI (gn - b / 6))) j 4 0 = sS G j (upd (upd (upd (upd (shF G j) 4 (nI 0)) 6 (nI (cr - b / 3))) 5 (nI (sl - b / 4))) 7 (nI (gn - b / 6))) := by
              rw [upd_c3]
              rw [show sF G j 6 (nI (cr - b / 3)) = sS G j (upd (shF G j) 6 (nI (cr - b / 3))) from rfl, hseq _ _ rfl, hseq _ _ rfl, hseq _ _ rfl]
              rfl
            rw [eG] at r4
            have r5 := r4.rel hj
            have hge : ∀ (X : Gm) (q : Nat → Int32), (k_rel (sS X j q) j).1 = X.1 := fun X q => by
              unfold k_rel
              split <;> rfl
            have r6 := r5.pNote hi hk (t := t) (v := dv) (by omega) hdv (by rw [hge]; exact et) ?_ (fun _ => rfl)
            · refine SIM.ok (r6.ext (fun q hq => ?_)) (fun q hq => ?_) rfl (nI_pos' (by omega)) m
              · -- the rows are the same
                have hw := h.wok j hj8
                have g1 : gx (px (px (px (px (px (px M.2.1 j 3 (nI 0)) j 5 (nI (cr - b / 3))) j 4 (nI (sl - b / 4))) j 6 (nI (gn - b / 6))) i (8 + k) (nI t)) i 10 (nI dv ||| 2)) j 7 = gx M.2.1 j 7 := by
                  rw [gx_pxi (by decide) (by decide) (Ne.symm hij), gx_pxi (by omega) (by decide) (Ne.symm hij), gx_px (by decide) (by decide) (by decide), gx_px (by decide) (by decide) (by decide), gx_px (by decide) (by decide) (by decide), gx_px (by decide) (by decide) (by decide)]
                have g2 : gx (px (px (px (px (px M.2.1 j 5 (nI (cr - b / 3))) j 4 (nI (sl - b / 4))) j 6 (nI (gn - b / 6))) j 3 0) j 1 (-1)) j 7 = gx M.2.1 j 7 := by
                  rw [gx_px (by decide) (by decide) (by decide), gx_px (by decide) (by decide) (by decide), gx_px (by decide) (by decide) (by decide), gx_px (by decide) (by decide) (by decide), gx_px (by decide) (by decide) (by decide)]
                unfold z_cutf
                rw [g1, g2, show nI 0 = (0 : Int32) from rfl]
                rcases hw with z | ⟨w, hw8, ew⟩
                · rw [if_pos z, if_pos z]
                  simp only [px, upd]
                  repeat' split
                  all_goals first | rfl | omega
                · rw [ew, if_neg (nI_pos (by omega)), if_neg (nI_pos (by omega)), nI_clamp (by omega)]
                  simp only [px, upd]
                  repeat' split
                  all_goals first | rfl | omega
              · have hwk : gx (px (px (px (px (px (px M.2.1 j 3 (nI 0)) j 5 (nI (cr - b / 3))) j 4 (nI (sl - b / 4))) j 6 (nI (gn - b / 6))) i (8 + k) (nI t)) i 10 (nI dv ||| 2)) j 7 < 0 ∨ ∃ w, w < 8 ∧ gx (px (px (px (px (px (px M.2.1 j 3 (nI 0)) j 5 (nI (cr - b / 3))) j 4 (nI (sl - b / 4))) j 6 (nI (gn - b / 6))) i (8 + k) (nI t)) i 10 (nI dv ||| 2)) j 7 = nI w := by
                  rw [gx_pxi (by decide) (by decide) (Ne.symm hij), gx_pxi (by omega) (by decide) (Ne.symm hij), gx_px (by decide) (by decide) (by decide), gx_px (by decide) (by decide) (by decide), gx_px (by decide) (by decide) (by decide), gx_px (by decide) (by decide) (by decide)]
                  exact h.wok j hj8
                have hq2 := hhi q hq
                rw [hz] at hq2
                rw [px_hi _ hj8 (by decide) _ hq, z_cutf_hi _ hj8 hwk hq]
                exact hq2
            · -- what it has done is as it was
              have hb11 : ∀ (X : Gm), shF (k_rel X j) i 11 = shF X i 11 := fun X => by
                unfold k_rel
                split
                · rw [shF_sFn _ hij]
                · rename_i w _
                  rw [shF_sFn _ hij]
                  by_cases z : i = w
                  · subst z; rw [shF_sFe _ _ (by decide), pk_un (by decide)]
                  · rw [shF_sFn _ z]
              rw [hb11, shF_sS' hij]; exact edv
          · -- it floats on
            rw [if_pos (show (0 : Int32) < nI (hl - b) from (nI_ltI (a := 0) (by decide) (by omega)).mpr (Nat.pos_of_ne_zero hz)), if_neg (nI_ne0 (Nat.pos_of_ne_zero hz) (by omega))]
            have r1 := h.pHull hj (v := nI (hl - b)) ⟨_, by omega, rfl⟩ (nI_ne0 (Nat.pos_of_ne_zero hz) (by omega)) n0
            have r2 := r1.pCrew hj (v := nI (cr - b / 3)) ⟨_, by omega, rfl⟩
            have r3 := r2.pSail hj (v := nI (sl - b / 4)) ⟨_, by omega, rfl⟩
            have r4 := r3.pGuns hj (v := nI (gn - b / 6)) ⟨_, by omega, rfl⟩
            have eG : sF (sF (sF (sF G j 4 (nI (hl - b))) j 6 (nI (cr - b / 3))) j 5 (nI (sl - b / 4))) j 7 (nI (gn - b / 6)) = sS G j (upd (upd (upd (upd (shF G j) 4 (nI (hl - b))) 6 (nI (cr - b / 3))) 5 (nI (sl - b / 4))) 7 (nI (gn - b / 6))) := by
              rw [show sF G j 4 (nI (hl - b)) = sS G j (upd (shF G j) 4 (nI (hl - b))) from rfl, hseq _ _ rfl, hseq _ _ rfl, hseq _ _ rfl]
            rw [eG] at r4
            have r6 := r4.pNote hi hk (t := t) (v := dv) (by omega) hdv et (by rw [shF_sS' hij]; exact edv) (fun _ => rfl)
            exact SIM.ok r6 hhi rfl (nI_pos' (by omega)) m
end TN
