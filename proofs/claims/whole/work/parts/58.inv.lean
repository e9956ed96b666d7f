/-! what every order leaves as it is: in the class -/
def IC (G : Gm) : Prop := ∀ i, i < 8 → 0 ≤ shF G i 2 ∧ shF G i 2 < 81
theorem ic_of {G H : Gm} (h : IC G) (e : H.2 = G.2) : IC H := fun i hi => by
  have := h i hi
  unfold shF at this ⊢
  rw [e]
  exact this
theorem ic_sS {G : Gm} (h : IC G) (i : Nat) {F : Nat → Int32} (hF : 0 ≤ F 2 ∧ F 2 < 81) : IC (sS G i F) := fun a ha => by
  by_cases e : a = i
  · subst e
    show 0 ≤ (if a = a then F else G.2.2 a) 2 ∧ (if a = a then F else G.2.2 a) 2 < 81
    rw [if_pos rfl]
    exact hF
  · rw [shF_sS' e]; exact h a ha
theorem ic_sF {G : Gm} (h : IC G) {i : Nat} (hi : i < 8) {j : Nat} (hj : j ≠ 2) (v : Int32) : IC (sF G i j v) := ic_sS h i (by rw [pk_un (fun z => hj z.symm)]; exact h i hi)
theorem ic_sF2 {G : Gm} (h : IC G) (i : Nat) {v : Int32} (hv : 0 ≤ v ∧ v < 81) : IC (sF G i 2 v) := ic_sS h i (by rw [pk_us]; exact hv)
theorem k_next_r (x d : Int32) : k_next x d = -9 ∨ (0 ≤ k_next x d ∧ k_next x d < 81) := by
  unfold k_next
  split
  · split
    · rename_i h
      obtain ⟨a, ha, ea⟩ := i_nI (n := 9) h.1 h.2.1 (by decide)
      obtain ⟨b, hb, eb⟩ := i_nI (n := 9) h.2.2.1 h.2.2.2 (by decide)
      rw [ea, eb, show (9 : Int32) = nI 9 from rfl, pk_mul, nI_add]
      exact Or.inr ⟨nI_pos' (by omega), (nI_ltI (b := 81) (by omega) (by decide)).mpr (by omega)⟩
    · exact Or.inl rfl
  · exact Or.inl rfl
theorem k_ahead_r (G : Gm) (u : Nat) (x d : Int32) : k_ahead G u x d = -9 ∨ (0 ≤ k_ahead G u x d ∧ k_ahead G u x d < 81) := by
  unfold k_ahead
  split
  · exact k_next_r x d
  · exact Or.inl rfl
theorem k_go_r (G : Gm) (u p : Nat) : ∀ (n : Nat) (x d : Int32) (r : Int32 × Int32), (0 ≤ x ∧ x < 81) → k_go G u p n x d = some r → 0 ≤ r.1 ∧ r.1 < 81
  | 0, x, d, r, hx, h => by
    have : (x, d) = r := Option.some.inj h
    rw [← this]
    exact hx
  | n + 1, x, d, r, hx, h => by
    rw [k_go_s] at h
    by_cases c : nI (p / 10 ^ n % 10) = 1
    · rw [if_pos c] at h
      rcases k_ahead_r G u x (k_turn d (nI (p / 10 ^ n % 10))) with e | e
      · rw [e, if_pos rfl] at h; cases h
      · split at h
        · cases h
        · exact k_go_r G u p n _ _ r e h
    · rw [if_neg c] at h
      split at h
      · cases h
      · exact k_go_r G u p n _ _ r hx h
theorem known_8 {G : Gm} {x : Int32} {i : Nat} (h : k_known G x = some i) : i < 8 := by
  rcases k_known_cases G x with ⟨_, e⟩ | ⟨j, hj, _, _, e⟩
  · rw [e] at h; cases h
  · rw [e] at h; cases h; exact hj
theorem ic_rel {G : Gm} (h : IC G) {i : Nat} (hi : i < 8) : IC (k_rel G i) := by
  unfold k_rel
  split
  · exact ic_sF h hi (by decide) _
  · rename_i j hj
    exact ic_sF (ic_sF h (known_8 hj) (by decide) _) hi (by decide) _
theorem ic_fight {G : Gm} (h : IC G) {i j : Nat} (hi : i < 8) (hj : j < 8) : IC (k_fight G i j) := by
  have h1 : IC (k_fgt1 G i j) := ic_sF (ic_sF h hi (by decide) _) hj (by decide) _
  have hc : ∀ a b, a < 8 → b < 8 → IC (k_capt (k_fgt1 G i j) a b) := fun a b ha hb => by
    unfold k_capt
    exact ic_of (ic_sF (ic_sF (ic_sF h1 ha (by decide) _) hb (by decide) _) hb (by decide) _) rfl
  unfold k_fight k_fgt2
  split
  · split
    · exact h1
    · exact ic_rel (hc i j hi hj) hi
  · split
    · exact ic_rel (hc j i hj hi) hi
    · exact ic_rel h1 hi
theorem ic_kg {f : Gm → Nat → Gm} (hf : ∀ G i, IC G → i < 8 → IC (f G i)) : ∀ (n i : Nat) (G : Gm), i + n ≤ 8 → IC G → IC (kg f G i n)
  | 0, _, _, _, h => h
  | n + 1, i, G, hi, h => by
    rw [kg_s]
    exact ic_kg hf n (i + 1) _ (by omega) (hf G i h (by omega))
theorem ic_f1 (G : Gm) (i : Nat) (h : IC G) (hi : i < 8) : IC (k_f1 G i) := by
  unfold k_f1
  split
  · exact h
  · rename_i j hj
    split
    · exact ic_fight h hi (known_8 hj)
    · exact h
theorem ic_fire (G : Gm) (a s b : Int32) (h : IC G) : IC (k_fire G a s b).2 := by
  unfold k_fire
  split
  · exact h
  · rename_i u hu
    split
    · exact h
    · rename_i v hv
      have hu8 := known_8 hu
      have hv8 := known_8 hv
      by_cases c1 : a = b ∨ ¬ (s = 0 ∨ s = 1)
      · rw [if_pos c1]; exact h
      · rw [if_neg c1]
        by_cases c2 : G.1 1 = 0 ∨ ¬ 0 < shF G u 4 ∨ (G.1 0 < if s = 0 then shF G u 9 else shF G u 10) ∨ k_shot G u s v = 0
        · rw [if_pos c2]; exact h
        · rw [if_neg c2]
          show IC (k_fsets G u v s (k_hits (shF G u) (k_shot G u s v)))
          obtain ⟨t, ht⟩ : ∃ t, t = k_hits (shF G u) (k_shot G u s v) := ⟨_, rfl⟩
          rw [← ht]
          have h1 : IC (sS G v (k_suffer (shF G v) t)) := ic_sS h v (h v hv8)
          have hn : ∀ (H : Gm), IC H → IC (sS H u (k_note (shF H u) s (H.1 0))) := fun H hH => ic_sS hH u (by
            have e : k_note (shF H u) s (H.1 0) 2 = shF H u 2 := by
              unfold k_note
              by_cases c : s = 0
              · rw [if_pos c]; rfl
              · rw [if_neg c]; rfl
            rw [e]; exact hH u hu8)
          unfold k_fsets
          dsimp only
          by_cases c3 : 0 < shF (sS G v (k_suffer (shF G v) t)) v 4
          · rw [if_pos c3]; exact hn _ h1
          · rw [if_neg c3]; exact hn _ (ic_rel h1 hv8)
theorem ic_obey (G : Gm) (q : Nat → Int32) (h : IC G) : IC (k_obey G q).2 := by
  unfold k_obey
  split
  · -- tell
    unfold k_tell
    split
    · split
      · exact h
      · refine ic_of h ?_
        unfold k_told1
        split <;> rfl
    · exact h
  split
  · -- sail
    unfold k_sail
    split
    · exact h
    · rename_i u hu
      split
      · split
        · exact h
        · unfold k_sfin
          split
          · exact h
          · rename_i r hr
            have hi := known_8 hu
            exact ic_sF (ic_sF (ic_sF2 h u (k_go_r _ _ _ _ _ _ _ (h u hi) hr)) hi (by decide) _) hi (by decide) _
      · exact h
  split
  · -- fire
    exact ic_fire G _ _ _ h
  split
  · -- grapple
    unfold k_grap
    split
    · exact h
    · rename_i u hu
      split
      · exact h
      · rename_i v hv
        split
        · exact h
        · split
          · exact h
          · exact ic_sF (ic_sF h (known_8 hu) (by decide) _) (known_8 hv) (by decide) _
  split
  · -- cut
    unfold k_cut
    split
    · exact h
    · rename_i u hu
      split
      · exact h
      · split
        · exact h
        · exact ic_rel h (known_8 hu)
  split
  · -- repair
    unfold k_mend
    split
    · exact h
    · rename_i u hu
      have hu8 := known_8 hu
      split
      · split
        · exact h
        · unfold k_msets k_madd
          dsimp only
          split
          · exact ic_sF (ic_of (ic_sF h hu8 (by decide) _) rfl) hu8 (by decide) _
          · split
            · exact ic_sF (ic_of (ic_sF h hu8 (by decide) _) rfl) hu8 (by decide) _
            · exact ic_sF (ic_of (ic_sF h hu8 (by decide) _) rfl) hu8 (by decide) _
      · exact h
  · -- end
    unfold k_end
    split
    · exact h
    · have ht : ∀ H : Gm, (k_turnover H).2 = H.2 := fun H => rfl
      exact ic_of (ic_kg (f := k_f2) (fun G i h hi => ic_sF (j := 11) h hi (by decide) 0) 8 0 _ (by decide) (ic_kg ic_f1 8 0 _ (by decide) h)) (ht _)
/-! in the reference -/
def IZ (sn : Nat) (s : Nat → Int32) : Prop := sn ≤ 8 ∧ s 10 = nI sn ∧ Wok s ∧ ∀ e, e < sn → (∃ c, c < 2 ∧ gx s e 0 = nI c) ∧ (gx s e 7 < 0 ∨ ∃ j, j < sn ∧ gx s e 7 = nI j)
section IZS
variable {sn : Nat} {s : Nat → Int32}
theorem iz_px (h : IZ sn s) (i : Nat) {k : Nat} (hk : k < 11) (h0 : k ≠ 0) (h7 : k ≠ 7) (v : Int32) : IZ sn (px s i k v) := by
  refine ⟨h.1, (px_lo _ _ _ _ (by decide)).trans h.2.1, fun e he => ?_, fun e he => ?_⟩
  · rw [gx_px hk (by decide) (Ne.symm h7)]; exact h.2.2.1 e he
  · rw [gx_px hk (by decide) (Ne.symm h7), gx_px hk (by decide) (Ne.symm h0)]; exact h.2.2.2 e he
theorem iz_lo (h : IZ sn s) {j : Nat} (hj : j < 93) (h10 : j ≠ 10) (v : Int32) : IZ sn (upd s j v) := by
  have g : ∀ e k, gx (upd s j v) e k = gx s e k := fun e k => pk_un (by omega)
  exact ⟨h.1, (pk_un (Ne.symm h10)).trans h.2.1, fun e he => by rw [g]; exact h.2.2.1 e he, fun e he => by rw [g, g]; exact h.2.2.2 e he⟩
theorem iz_p0 (h : IZ sn s) (i : Nat) {v : Int32} (hv : ∃ c, c < 2 ∧ v = nI c) : IZ sn (px s i 0 v) := by
  refine ⟨h.1, (px_lo _ _ _ _ (by decide)).trans h.2.1, fun e he => ?_, fun e he => ?_⟩
  · rw [gx_px (by decide) (by decide) (by decide)]; exact h.2.2.1 e he
  · rw [gx_px (l := 7) (by decide) (by decide) (by decide)]
    refine ⟨?_, (h.2.2.2 e he).2⟩
    by_cases q : e = i
    · subst q; rw [gx_pxe]; exact hv
    · rw [gx_pxi (by decide) (by decide) q]; exact (h.2.2.2 e he).1
theorem iz_p7 (h : IZ sn s) (i : Nat) {v : Int32} (hv : v < 0 ∨ ∃ j, j < sn ∧ v = nI j) : IZ sn (px s i 7 v) := by
  have hn := h.1
  refine ⟨h.1, (px_lo _ _ _ _ (by decide)).trans h.2.1, fun e he => ?_, fun e he => ?_⟩
  · by_cases q : e = i
    · subst q; rw [gx_pxe]; exact hv.elim (fun z => Or.inl z) (fun ⟨j, a, b⟩ => Or.inr ⟨j, by omega, b⟩)
    · rw [gx_pxi (by decide) (by decide) q]; exact h.2.2.1 e he
  · rw [gx_px (l := 0) (by decide) (by decide) (by decide)]
    refine ⟨(h.2.2.2 e he).1, ?_⟩
    by_cases q : e = i
    · subst q; rw [gx_pxe]; exact hv
    · rw [gx_pxi (by decide) (by decide) q]; exact (h.2.2.2 e he).2
theorem iz_cutf (h : IZ sn s) (i : Nat) : IZ sn (z_cutf s i) := by
  unfold z_cutf
  split
  · exact h
  · exact iz_p7 (iz_p7 h _ (Or.inl (by decide))) i (Or.inl (by decide))
theorem iz_lay (h : IZ sn s) {i : Nat} (hi : i < 2) : IZ sn (z_lay s i) := by
  unfold z_lay
  exact iz_lo (iz_lo (iz_lo h (by omega) (by omega) _) (by omega) (by omega) _) (by omega) (by omega) _
theorem iz_fa (h : IZ sn s) (i j : Nat) : IZ sn (z_fa s i j) := by
  unfold z_fa z_lose
  exact iz_px (iz_px h _ (by decide) (by decide) (by decide) _) _ (by decide) (by decide) (by decide) _
theorem iz_cpt (h : IZ sn s) (l : Nat) {w : Nat} (hw : w < sn) : IZ sn (z_cpt s l w) := by
  unfold z_cpt
  exact iz_lo (iz_px (iz_px (iz_p0 h l (h.2.2.2 w hw).1) _ (by decide) (by decide) (by decide) _) _ (by decide) (by decide) (by decide) _) (by decide) (by decide) _
theorem iz_fight (h : IZ sn s) {i j : Nat} (hi : i < sn) (hj : j < sn) : IZ sn (z_fight s i j) := by
  unfold z_fight
  split
  · split
    · exact iz_cutf (iz_fa h i j) i
    · exact iz_cutf (iz_cpt (iz_fa h i j) i hj) i
  · split
    · exact iz_cutf (iz_cpt (iz_fa h i j) j hi) i
    · exact iz_fa h i j
theorem iz_lose (h : IZ sn s) (i : Nat) {k : Nat} (hk : k < 11) (h0 : k ≠ 0) (h7 : k ≠ 7) (n : Int32) : IZ sn (z_lose s i k n) := iz_px h i hk h0 h7 _
theorem iz_fs (h : IZ sn s) (i : Nat) {k : Nat} (hk : k < 2) (t : Nat) (n : Int32) : IZ sn (z_fs s i k t n) := by
  have h4 := iz_lose (iz_lose (iz_lose (iz_lose h t (k := 3) (by decide) (by decide) (by decide) n) t (k := 5) (by decide) (by decide) (by decide) (n / 3)) t (k := 4) (by decide) (by decide) (by decide) (n / 4)) t (k := 6) (by decide) (by decide) (by decide) (n / 6)
  have h6 := fun a b => iz_px (iz_px h4 i (k := 8 + k) (by omega) (by omega) (by omega) a) i (k := 10) (by decide) (by decide) (by decide) b
  unfold z_fs
  dsimp only
  split
  · exact iz_px (k := 1) (iz_cutf (h6 _ _) t) t (by decide) (by decide) (by decide) (-1)
  · exact h6 _ _
theorem iz_e1 (h : IZ sn s) {i : Nat} (hi : i < sn) : IZ sn (z_e1 s i) := by
  have hn := h.1
  unfold z_e1
  refine iz_px ?_ i (by decide) (by decide) (by decide) 0
  split
  · rename_i c
    rcases (h.2.2.2 i hi).2 with z | ⟨j, hj, e⟩
    · exact absurd (Int32.lt_trans c z) (nI_pos (by omega))
    · rw [e, nI_clamp (show j < 2 ^ 31 by omega)]
      exact iz_fight h hi hj
  · exact h
theorem iz_zk : ∀ (n i : Nat) (s : Nat → Int32), i + n ≤ sn → IZ sn s → IZ sn (zk z_e1 s i n)
  | 0, _, _, _, h => h
  | n + 1, i, s, hi, h => by
    rw [zk_s]
    exact iz_zk n (i + 1) _ (by omega) (iz_e1 h (by omega))
theorem iz_zso (h : IZ sn s) (x : Int32) (nu : Nat → Int32) : IZ sn (zso s x nu).2 := by
  have hn := h.1
  unfold zso
  rw [h.2.1, nI_clamp (show sn < 2 ^ 31 by omega)]
  unfold z_obey
  split
  · unfold zw_tell
    split
    · split
      · exact h
      · rename_i c _
        obtain ⟨k, hk, ek⟩ := ge0 (n := 1) c.1.1 (by decide) c.1.2
        show IZ sn (z_tell1 s (nu 0).toNatClampNeg (nu 1))
        rw [ek, nI_clamp (show k < 2 ^ 31 by omega)]
        unfold z_tell1
        have h1 := iz_lo h (j := 6 + k) (by omega) (by omega) (nu 1)
        split
        · exact h1
        · unfold z_beg
          exact iz_lo (iz_lay (iz_lay (iz_lo (iz_lo h1 (by decide) (by decide) _) (by decide) (by decide) _) (by decide)) (by decide)) (by decide) (by decide) _
    · exact h
  split
  · unfold zw_sail
    split
    · unfold zw_sail2
      split
      · exact iz_px (iz_px (iz_px h _ (by decide) (by decide) (by decide) _) _ (by decide) (by decide) (by decide) _) _ (by decide) (by decide) (by decide) _
      · exact h
    · exact h
  split
  · unfold zw_fire
    split
    · rename_i c
      unfold zw_fire2
      split
      · obtain ⟨k, hk, ek⟩ := ge0 (n := 1) c.2.1 (by decide) c.2.2
        show IZ sn (z_fs s _ (nu 1).toNatClampNeg _ _)
        rw [ek, nI_clamp (show k < 2 ^ 31 by omega)]
        exact iz_fs h _ (show k < 2 by omega) _ _
      · exact h
    · exact h
  split
  · unfold zw_grap
    split
    · rename_i c
      unfold zw_grap2
      split
      · obtain ⟨a, ha, ea⟩ := i_nI c.1.1 c.1.2 (by omega)
        obtain ⟨b, hb, eb⟩ := i_nI c.2.1.1 c.2.1.2 (by omega)
        show IZ sn (z_gr s (nu 0).toNatClampNeg (nu 1).toNatClampNeg)
        rw [ea, eb, nI_clamp (show a < 2 ^ 31 by omega), nI_clamp (show b < 2 ^ 31 by omega)]
        exact iz_p7 (iz_p7 h a (Or.inr ⟨b, hb, rfl⟩)) b (Or.inr ⟨a, ha, rfl⟩)
      · exact h
    · exact h
  split
  · unfold zw_cut
    split
    · unfold zw_cut2
      split
      · exact iz_cutf h _
      · exact h
    · exact h
  split
  · unfold zw_rep
    split
    · rename_i c
      unfold zw_rep2
      split
      · obtain ⟨a, ha, ea⟩ := i_nI c.1.1 c.1.2 (by omega)
        obtain ⟨b, hb, eb⟩ := (h.2.2.2 a ha).1
        show IZ sn (z_rp s (nu 0).toNatClampNeg (gx s (nu 0).toNatClampNeg 0).toNatClampNeg (nu 1) _)
        rw [ea, nI_clamp (show a < 2 ^ 31 by omega), eb, nI_clamp (show b < 2 ^ 31 by omega)]
        unfold z_rp
        have hof : z_of (nu 1) < 11 ∧ z_of (nu 1) ≠ 0 ∧ z_of (nu 1) ≠ 7 := by
          unfold z_of
          split
          · decide
          · split <;> decide
        exact iz_px (iz_px (iz_lo h (by omega) (by omega) _) a hof.1 hof.2.1 hof.2.2 _) a (by decide) (by decide) (by decide) 4
      · exact h
    · exact h
  · unfold zw_end
    split
    · exact h
    · exact iz_lo (iz_lo (iz_zk sn 0 _ (by omega) h) (by decide) (by decide) _) (by decide) (by decide) _
theorem RGd.iz {T : Nat} {dn : Nat → Int32 → Int32} {G : Gm} (h : RGd T sn dn G s) : IZ sn s := by
  have hn := h.n
  refine ⟨hn, h.s10, h.wok, fun e he => ⟨?_, ?_⟩⟩
  · obtain ⟨c, hc, ec⟩ := (h.shp e (by omega)).1
    exact ⟨c, hc, (h.shr e he).1.trans ec⟩
  · rcases h.with he with ⟨_, e2, _⟩ | ⟨w, hw, _, e2, _⟩
    · rw [e2]; exact Or.inl (by decide)
    · exact Or.inr ⟨w, hw, e2⟩
end IZS
