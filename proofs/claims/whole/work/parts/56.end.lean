/-! THE TIE: the end of a turn -/
section TO
variable {T sn : Nat} {dn : Nat → Int32 → Int32} {G : Gm} {s : Nat → Int32} {M : Mm}
theorem RGd.captq (h : RGd T sn dn G s) {w p : Nat} (hw : w < sn) (hp : p < sn) (hne : w ≠ p) (h0 : shF G p 6 = 0) : RGd T sn dn (k_capt G w p) (z_cpt s p w) := by
  have hn := h.n
  obtain ⟨a, ha, ea⟩ := (h.shp w (by omega)).2.2.2.2.2.1
  obtain ⟨cw, hcw, ecw⟩ := (h.shp w (by omega)).1
  have hrw := h.shr w hw
  have d2 : nI a / 2 = nI (a / 2) := by rw [show (2 : Int32) = nI 2 from rfl, pk_div (by omega) (by decide) (by decide)]
  have r1 := h.pCrew hw (v := nI (a - a / 2)) ⟨_, by omega, rfl⟩
  have r2 := r1.pCrew hp (v := nI (a / 2)) ⟨_, by omega, rfl⟩
  have r3 := r2.pCap hp (v := nI cw) ⟨cw, hcw, rfl⟩
  have eG : k_capt G w p = sG (sF (sF (sF G w 6 (nI (a - a / 2))) p 6 (nI (a / 2))) p 1 (nI cw)) 5 (G.1 5 + 1) := by
    unfold k_capt
    rw [ea, d2]
    dsimp only
    rw [pk_sub (by omega), shF_sFn _ (Ne.symm hne), h0, Int32.zero_add, shF_sFn _ hne, shF_sFe _ _ (by decide), pk_un (by decide), ecw]
    rfl
  rw [eG]
  have r4 : RGd T sn dn (sG (sF (sF (sF G w 6 (nI (a - a / 2))) p 6 (nI (a / 2))) p 1 (nI cw)) 5 (G.1 5 + 1)) (upd (px (px (px s w 5 (nI (a - a / 2))) p 5 (nI (a / 2))) p 0 (nI cw)) 11 (s 11 + 1)) := by
    refine RGd.glob r3 (f := upd _ 5 _) (Nat.le_refl T) (fun j h6 _ => pk_un (by omega)) (fun j h6 _ => pk_un (by omega)) (fun j h6 _ => pk_un (by omega)) (pk_un (by decide)) r3.tB r3.s0 r3.mv r3.s1 r3.dB r3.s2 r3.fB r3.s3 ?_ ?_
    · show s 11 + 1 = G.1 5 + 1
      rw [h.s11]
    · rcases r3.mv with z | z
      · exact Or.inl z
      · refine Or.inr (fun c hc => ?_)
        obtain ⟨_, _, _, _, _, _, _, q⟩ := r3.cap c hc
        rcases q with q | ⟨_, _, _, _, _, q⟩
        · exact q.1
        · rw [z] at q; exact absurd q (by decide)
  refine r4.ext (fun j hj => ?_)
  have e1 : gx s w 5 = nI a := hrw.2.2.2.2.2.1.trans ea
  have e0 : gx s w 0 = nI cw := hrw.1.trans ecw
  unfold z_cpt
  rw [e1, e0, d2]
  rw [gx_pxi (by decide) (by decide) hne, gx_pxi (by decide) (by decide) hne, e1, pk_sub (by omega), px_lo _ _ _ _ (show 11 < 93 by decide), px_lo _ _ _ _ (show 11 < 93 by decide), px_lo _ _ _ _ (show 11 < 93 by decide)]
  simp only [px, upd]
  repeat' split
  all_goals first | rfl | omega
theorem RGd.fa (h : RGd T sn dn G s) {i j : Nat} (hi : i < sn) (hj : j < sn) (hne : i ≠ j) : RGd T sn dn (k_fgt1 G i j) (z_fa s i j) ∧ ∃ a b, a < 41 ∧ b < 41 ∧ shF (k_fgt1 G i j) i 6 = nI a ∧ shF (k_fgt1 G i j) j 6 = nI b ∧ gx (z_fa s i j) i 5 = nI a ∧ gx (z_fa s i j) j 5 = nI b := by
  have hn := h.n
  obtain ⟨a, ha, ea⟩ := (h.shp i (by omega)).2.2.2.2.2.1
  obtain ⟨b, hb, eb⟩ := (h.shp j (by omega)).2.2.2.2.2.1
  have ra : gx s i 5 = nI a := (h.shr i hi).2.2.2.2.2.1.trans ea
  have rb : gx s j 5 = nI b := (h.shr j hj).2.2.2.2.2.1.trans eb
  have q4 : ∀ x : Nat, x < 41 → (nI x + 3) / 4 = nI ((x + 3) / 4) := fun x hx => by
    rw [show (3 : Int32) = nI 3 from rfl, nI_add, show (4 : Int32) = nI 4 from rfl, pk_div (by omega) (by decide) (by decide)]
  have la := lose_nI (a := a) (h := (b + 3) / 4) (by omega) (by omega)
  have lb := lose_nI (a := b) (h := (a + 3) / 4) (by omega) (by omega)
  have eG : k_fgt1 G i j = sF (sF G i 6 (nI (a - (b + 3) / 4))) j 6 (nI (b - (a + 3) / 4)) := by
    unfold k_fgt1
    rw [ea, eb, q4 a ha, q4 b hb, la.1]
    dsimp only
    rw [shF_sFn _ (Ne.symm hne), eb, lb.1]
  have es : z_fa s i j = px (px s i 5 (nI (a - (b + 3) / 4))) j 5 (nI (b - (a + 3) / 4)) := by
    unfold z_fa z_lose
    rw [ra, rb, q4 a ha, q4 b hb, la.2, gx_pxi (by decide) (by decide) (Ne.symm hne), rb, lb.2]
  have r1 := h.pCrew hi (v := nI (a - (b + 3) / 4)) ⟨_, by omega, rfl⟩
  have r2 := r1.pCrew hj (v := nI (b - (a + 3) / 4)) ⟨_, by omega, rfl⟩
  rw [eG, es]
  refine ⟨r2, _, _, (by omega : a - (b + 3) / 4 < 41), (by omega : b - (a + 3) / 4 < 41), ?_, ?_, ?_, ?_⟩
  · rw [shF_sFn _ hne, shF_sFe _ _ (by decide), pk_us]
  · rw [shF_sFe _ _ (by decide), pk_us]
  · rw [gx_pxi (by decide) (by decide) hne, gx_pxe]
  · rw [gx_pxe]
theorem RGd.fightq (h : RGd T sn dn G s) {i j : Nat} (hi : i < sn) (hj : j < sn) (hne : i ≠ j) : RGd T sn dn (k_fight G i j) (z_fight s i j) := by
  obtain ⟨r, a, b, ha, hb, e1, e2, e3, e4⟩ := h.fa hi hj hne
  unfold k_fight k_fgt2 z_fight
  rw [e1, e2, e3, e4]
  have z0 : ∀ x : Nat, x < 41 → (0 < nI x ↔ ¬ nI x = 0) := fun x hx => by
    rw [show (0 : Int32) = nI 0 from rfl, nI_ltI (by decide) (by omega), nI_eq (by omega) (by decide)]; omega
  by_cases ca : nI a = 0
  · rw [if_neg (fun z => (z0 a ha).mp z ca), if_pos ca]
    by_cases cb : nI b = 0
    · rw [if_neg (fun z => (z0 b hb).mp z cb), if_pos cb]
      exact r.rel hi
    · rw [if_pos ((z0 b hb).mpr cb), if_neg cb]
      exact (r.captq hj hi (Ne.symm hne) (e1.trans ca)).rel hi
  · rw [if_pos ((z0 a ha).mpr ca), if_neg ca]
    by_cases cb : nI b = 0
    · rw [if_neg (fun z => (z0 b hb).mp z cb), if_pos cb]
      exact (r.captq hi hj hne (e2.trans cb)).rel hi
    · rw [if_pos ((z0 b hb).mpr cb), if_neg cb]
      exact r
def dnk (a : Nat) : Nat → Int32 → Int32 := fun i v => if i < a then 0 else v
theorem RGd.row10 {a : Nat} (h : RGd T sn (dnk a) G s) (ha : a < sn) : RGd T sn (dnk (a + 1)) G (px s a 10 0) := by
  have hn := h.n
  refine RGd.ships (G := G) (H := G.2.2) h (Nat.le_refl T) (fun j hj => px_lo _ _ _ _ hj) (fun b hb => ⟨h.shp b (by omega), ?_⟩) (fun b _ _ => rfl) (fun b h1 h2 => gx_px (by decide) (by decide) (by decide))
  have hr := h.shr b hb
  by_cases e : b = a
  · subst e
    have q : ∀ l, l < 11 → l ≠ 10 → gx (px s b 10 0) b l = gx s b l := fun l h1 h2 => gx_px (by decide) h1 h2
    refine ⟨?_, ?_, ?_, ?_, ?_, ?_, ?_, ?_, ?_, ?_, ?_⟩
    · rw [q 0 (by decide) (by decide)]; exact hr.1
    · rw [q 1 (by decide) (by decide)]; exact hr.2.1
    · rw [q 2 (by decide) (by decide)]; exact hr.2.2.1
    · rw [q 3 (by decide) (by decide)]; exact hr.2.2.2.1
    · rw [q 4 (by decide) (by decide)]; exact hr.2.2.2.2.1
    · rw [q 5 (by decide) (by decide)]; exact hr.2.2.2.2.2.1
    · rw [q 6 (by decide) (by decide)]; exact hr.2.2.2.2.2.2.1
    · rw [q 7 (by decide) (by decide)]; exact hr.2.2.2.2.2.2.2.1
    · rw [q 8 (by decide) (by decide)]; exact hr.2.2.2.2.2.2.2.2.1
    · rw [q 9 (by decide) (by decide)]; exact hr.2.2.2.2.2.2.2.2.2.1
    · rw [gx_pxe]; exact (if_pos (Nat.lt_succ_self b)).symm
  · have q : ∀ l, l < 11 → gx (px s a 10 0) b l = gx s b l := fun l h1 => gx_pxi (by decide) h1 e
    have hr2 := hr.ext (s2 := px s a 10 0) q
    have ed : dnk (a + 1) b = dnk a b := by
      funext v
      unfold dnk
      by_cases c : b < a
      · rw [if_pos c, if_pos (by omega)]
      · rw [if_neg c, if_neg (by omega)]
    rw [ed]
    exact hr2
theorem RGd.e1 {i : Nat} (h : RGd T sn (dnk i) G s) (hi : i < sn) : RGd T sn (dnk (i + 1)) (k_f1 G i) (z_e1 s i) := by
  have hn := h.n
  unfold k_f1 z_e1
  rcases h.with hi with ⟨_, e2, e3⟩ | ⟨w, hw, e1, e2, e3⟩
  · rw [e3, e2, if_neg (fun z => absurd (Int32.lt_trans z (show (-1 : Int32) < 0 by decide)) (nI_pos (by omega)))]
    exact h.row10 hi
  · rw [e3, e2, nI_clamp (show w < 2 ^ 31 by omega)]
    dsimp only
    rw [shF_0, shF_0]
    by_cases c : nI i < nI w
    · rw [if_pos c, if_pos c]
      have := (nI_ltI (by omega) (by omega)).mp c
      exact (h.fightq hi hw (by omega)).row10 hi
    · rw [if_neg c, if_neg c]
      exact h.row10 hi
theorem RGd.e1s : ∀ (n i : Nat) (G : Gm) (s : Nat → Int32), i + n = sn → RGd T sn (dnk i) G s → RGd T sn (dnk sn) (kg k_f1 G i n) (zk z_e1 s i n)
  | 0, i, G, s, hi, h => by
    have : i = sn := by omega
    subst this
    exact h
  | n + 1, i, G, s, hi, h => by
    rw [kg_s, zk_s]
    exact RGd.e1s n (i + 1) _ _ (by omega) (h.e1 (by omega))
theorem kg_add (f : Gm → Nat → Gm) (m : Nat) : ∀ (n i : Nat) (G : Gm), kg f G i (n + m) = kg f (kg f G i n) (i + n) m
  | 0, i, G => by rw [Nat.zero_add]; rfl
  | n + 1, i, G => by
    rw [show n + 1 + m = (n + m) + 1 by omega, kg_s, kg_s, kg_add f m n (i + 1), show i + 1 + n = i + (n + 1) by omega]
theorem RGd.f1_id (h : RGd T sn dn G s) : ∀ (n i : Nat), sn ≤ i → i + n ≤ 8 → kg k_f1 G i n = G
  | 0, _, _, _ => rfl
  | n + 1, i, h1, h2 => by
    have e : k_f1 G i = G := by
      unfold k_f1
      rw [(h.fsh i h1 (by omega)).2.1]
      rcases h.known (-9) with z | ⟨j, hj, z, _⟩
      · rw [z.2]
      · exact absurd (nI_pos' (show j < 2 ^ 31 by have := h.n; omega)) (by rw [← z]; decide)
    rw [kg_s, e]
    exact h.f1_id n (i + 1) (by omega) (by omega)
theorem kg_f2 : ∀ (n i : Nat) (G : Gm), (kg k_f2 G i n).1 = G.1 ∧ (kg k_f2 G i n).2.1 = G.2.1 ∧ ∀ a, shF (kg k_f2 G i n) a = if i ≤ a ∧ a < i + n then upd (shF G a) 11 0 else shF G a
  | 0, i, G => ⟨rfl, rfl, fun a => by rw [if_neg (by omega)]; rfl⟩
  | n + 1, i, G => by
    rw [kg_s]
    obtain ⟨h1, h2, h3⟩ := kg_f2 n (i + 1) (k_f2 G i)
    refine ⟨h1, h2, fun a => ?_⟩
    rw [h3 a]
    unfold k_f2
    by_cases e : a = i
    · subst e
      rw [if_neg (by omega), if_pos (by omega), shF_sFe _ _ (by decide)]
    · rw [shF_sFn _ e]
      by_cases c : i + 1 ≤ a ∧ a < i + 1 + n
      · rw [if_pos c, if_pos (by omega)]
      · rw [if_neg c, if_neg (by omega)]
theorem RGd.f2s (h : RGd T sn (dnk sn) G s) : RG T sn (kg k_f2 G 0 8) s := by
  have hn := h.n
  obtain ⟨h1, h2, h3⟩ := kg_f2 8 0 G
  have e : kg k_f2 G 0 8 = (G.1, G.2.1, (kg k_f2 G 0 8).2.2) := by rw [← h1, ← h2]
  have hF : ∀ a, a < 8 → shF (G.1, G.2.1, (kg k_f2 G 0 8).2.2) a = upd (shF G a) 11 0 := fun a ha => by
    rw [← e, h3 a, if_pos (by omega)]
  rw [e]
  refine h.ships (Nat.le_refl T) (fun _ _ => rfl) (fun a ha => ?_) (fun a h1 h2 => ?_) (fun _ _ _ => rfl)
  · rw [hF a (by omega)]
    have hp := h.shp a (by omega)
    have hr := h.shr a ha
    refine ⟨⟨hp.1, hp.2.1, hp.2.2.1, hp.2.2.2.1, hp.2.2.2.2.1, hp.2.2.2.2.2.1, hp.2.2.2.2.2.2.1, hp.2.2.2.2.2.2.2.1, hp.2.2.2.2.2.2.2.2.1, hp.2.2.2.2.2.2.2.2.2.1, ⟨0, by decide, rfl⟩⟩, ⟨hr.1, hr.2.1, hr.2.2.1, hr.2.2.2.1, hr.2.2.2.2.1, hr.2.2.2.2.2.1, hr.2.2.2.2.2.2.1, hr.2.2.2.2.2.2.2.1, hr.2.2.2.2.2.2.2.2.1, hr.2.2.2.2.2.2.2.2.2.1, ?_⟩⟩
    rw [hr.2.2.2.2.2.2.2.2.2.2]
    exact if_pos ha
  · rw [hF a h2]
    have := (h.fsh a h1 h2).2.2.2.2
    rw [show upd (shF G a) 11 0 = upd (shF G a) 11 (shF G a 11) from by rw [this], upd_id]
theorem px_hi2 (s : Nat → Int32) {i k : Nat} (hi : i < 8) (hk : k < 11) (v : Int32) {j : Nat} (hj : 181 ≤ j) : px s i k v j = s j := px_hi s hi hk v hj
theorem z_fa_hi (s : Nat → Int32) {i j q : Nat} (hi : i < 8) (hj : j < 8) (hq : 181 ≤ q) : z_fa s i j q = s q := by
  unfold z_fa z_lose
  rw [px_hi _ hj (by decide) _ hq, px_hi _ hi (by decide) _ hq]
theorem z_cpt_hi (s : Nat → Int32) {i j q : Nat} (hi : i < 8) (hj : j < 8) (hq : 181 ≤ q) : z_cpt s i j q = s q := by
  unfold z_cpt
  rw [pk_un (by omega), px_hi _ hj (by decide) _ hq, px_hi _ hi (by decide) _ hq, px_hi _ hi (by decide) _ hq]
theorem z_fight_hi {s : Nat → Int32} (hwk : Wok s) {i j q : Nat} (hi : i < 8) (hj : j < 8) (hq : 181 ≤ q) : z_fight s i j q = s q := by
  have w1 : ∀ e, e < 8 → gx (z_fa s i j) e 7 < 0 ∨ ∃ g, g < 8 ∧ gx (z_fa s i j) e 7 = nI g := fun e he => by rw [gx7_fa]; exact hwk e he
  have w2 : ∀ a b, ∀ e, e < 8 → gx (z_cpt (z_fa s i j) a b) e 7 < 0 ∨ ∃ g, g < 8 ∧ gx (z_cpt (z_fa s i j) a b) e 7 = nI g := fun a b e he => by rw [gx7_cpt]; exact w1 e he
  unfold z_fight
  split
  · split
    · rw [z_cutf_hi _ hi (w1 i hi) hq, z_fa_hi _ hi hj hq]
    · rw [z_cutf_hi _ hi (w2 _ _ i hi) hq, z_cpt_hi _ hi hj hq, z_fa_hi _ hi hj hq]
  · split
    · rw [z_cutf_hi _ hi (w2 _ _ i hi) hq, z_cpt_hi _ hj hi hq, z_fa_hi _ hi hj hq]
    · exact z_fa_hi _ hi hj hq
theorem z_e1_hi {s : Nat → Int32} (hwk : Wok s) {i q : Nat} (hi : i < 8) (hq : 181 ≤ q) : z_e1 s i q = s q := by
  unfold z_e1
  rw [px_hi _ hi (by decide) _ hq]
  split
  · rename_i c
    obtain ⟨j, hj, e⟩ := hwk.at hi c
    exact z_fight_hi hwk hi (by rw [e, nI_clamp (by omega)]; exact hj) hq
  · rfl
theorem zk_e1_hi : ∀ (n i : Nat) (s : Nat → Int32), Wok s → i + n ≤ 8 → ∀ q, 181 ≤ q → zk z_e1 s i n q = s q
  | 0, _, _, _, _, _, _ => rfl
  | n + 1, i, s, h, hi, q, hq => by
    rw [zk_s, zk_e1_hi n (i + 1) _ (h.e1 i) (by omega) q hq, z_e1_hi h (by omega) hq]
theorem sim_end (hT : T < 2 ^ 29) (h : RG T sn G M.2.1) (m : Nat) : SIM (T + 1) (k_end G) M m (zw_end M sn m) := by
  have hn := h.n
  unfold k_end zw_end
  rw [h.s1]
  by_cases c : G.1 1 = 0
  · rw [if_pos c, if_pos c]
    exact SIM.err (h.mono (Nat.le_succ T)) (by decide) m
  · rw [if_neg c, if_neg c]
    have h0 : RGd T sn (dnk 0) G M.2.1 := h
    have h1 := RGd.e1s sn 0 G M.2.1 (Nat.zero_add sn) h0
    have e8 : kg k_f1 G 0 8 = kg k_f1 G 0 sn := by
      rw [show (8 : Nat) = sn + (8 - sn) by omega, kg_add, Nat.zero_add, h1.f1_id (8 - sn) sn (Nat.le_refl sn) (by omega)]
    rw [e8]
    have h2 := h1.f2s
    obtain ⟨t, ht, et⟩ := h2.tB
    have e10 : (sG (kg k_f2 (kg k_f1 G 0 sn) 0 8) 1 0).1 0 = nI t := et
    have e11 : upd (zk z_e1 M.2.1 0 sn) 1 0 0 = nI t := h2.s0.trans et
    have h3 : RG (T + 1) sn (k_turnover (kg k_f2 (kg k_f1 G 0 sn) 0 8)) (z_eov (zk z_e1 M.2.1 0 sn)) := by
      unfold k_turnover z_eov
      rw [e10, e11]
      refine RGd.glob h2 (f := upd (upd _ 1 0) 0 (nI t + 1)) (Nat.le_succ T) (fun j h6 _ => ?_) (fun j h6 _ => ?_) (fun j h6 _ => ?_) rfl ⟨t + 1, by omega, nI_1 t⟩ rfl (Or.inl rfl) rfl h2.dB h2.s2 h2.fB h2.s3 h2.s11 (Or.inl rfl)
      · rw [pk_un (by omega), pk_un (by omega)]
      · rw [pk_un (by omega), pk_un (by omega)]
      · rw [pk_un (by omega), pk_un (by omega)]
    refine SIM.ok h3 (fun j hj => ?_) h3.s0.symm ?_ m
    · unfold z_eov
      rw [pk_un (by omega), pk_un (by omega)]
      exact zk_e1_hi sn 0 _ h.wok (by omega) j hj
    · show 0 ≤ z_eov (zk z_e1 M.2.1 0 sn) 0
      unfold z_eov
      rw [pk_us, e11, nI_1]
      exact nI_pos' (by omega)
end TO
