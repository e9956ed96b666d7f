/-! THE TIE: way, reach, bestCard -/
section TF
variable {T sn : Nat} {dn : Nat → Int32 → Int32} {G : Gm} {s : Nat → Int32} {C : Cm} {M : Mm}
theorem z_path_sunk {i : Nat} (hf : ¬ 0 ≤ gx s i 1) (sn y : Nat) (mo : Int32) : z_path s sn i y mo = 0 := if_neg (fun z => hf z.1)
theorem RGd.st (h : RGd T sn dn G s) {i : Nat} (hi : i < 8) : ∃ e0 d0, e0 < 81 ∧ d0 < 6 ∧ shF G i 2 = nI e0 ∧ shF G i 3 = nI d0 ∧ hdg G i = d0 := by
  obtain ⟨e, he, ee⟩ := (h.shp i hi).2.1
  obtain ⟨d, hd, ed⟩ := (h.shp i hi).2.2.1
  exact ⟨e, d, he, hd, ee, ed, by unfold hdg; rw [ed, nI_clamp (by omega)]⟩
theorem RGd.wayq (h : RGd T sn dn G s) {i : Nat} (hi : i < sn) (hf : 0 < shF G i 4) {mo : Nat} (hmo : mo ≤ 6) (Q : Nat → Nat) {y : Nat} (hy : y < 81) : bbest (bway G i (hdg G i) (nI mo) Q) y = bp (z_path s sn i y (nI mo)) ∧ (z_path s sn i y (nI mo) ≠ 0 → nI (bhead (bway G i (hdg G i) (nI mo) Q) y) = (zgo s sn i (z_path s sn i y (nI mo))).2.2) := by
  have hn := h.n
  obtain ⟨e0, d0, he, hd, h2, h3, hh⟩ := h.st (show i < 8 by omega)
  rw [hh]
  have hx : gx s i 1 = nI e0 := (h.hx hi hf).trans h2
  obtain ⟨κ, bd, hB, hG⟩ := bway_fin (mo := mo) (by omega) he hd h2 Q
  have hst : (e0 * 6 + d0) / 6 = e0 := by omega
  have h0 : 0 ≤ gx s i 1 := (h.fl hi).mpr hf
  have pok : ∀ k q, pe G i (e0 * 6 + d0) k = some q → q < 486 ∧ zgo s sn i k = (true, nI (q / 6), nI (q % 6)) := fun k q hq => by
    rcases h.pth hi hf he hd h2 h3 k with ⟨q2, a1, a2, a3⟩ | ⟨a1, _⟩
    · rw [hq] at a2
      cases a2
      exact ⟨a1, a3⟩
    · rw [hq] at a1; cases a1
  have pko : ∀ k, (zgo s sn i k).1 = true ∧ (zgo s sn i k).2.1 = nI y → ∃ q, pe G i (e0 * 6 + d0) k = some q ∧ q / 6 = y := fun k hk => by
    rcases h.pth hi hf he hd h2 h3 k with ⟨q, a1, a2, a3⟩ | ⟨_, a2⟩
    · rw [a3] at hk
      exact ⟨q, a2, (nI_eq (by omega) (by omega)).mp hk.2⟩
    · rw [a2] at hk; cases hk.1
  have sp := z_ptk_spec s sn i y (mo := mo) (by omega) 1092 1 (by decide)
  rcases hB.best hG y with ⟨b1, b2⟩ | ⟨k, q, b1, b2, b3, b4, b5, b6, b7, b8⟩
  · have hz : z_path s sn i y (nI mo) = 0 := by
      unfold z_path
      by_cases c : gx s i 1 = nI y
      · rw [if_neg (fun z => z.2 c)]
      · rw [if_pos ⟨h0, c⟩]
        have c2 : ¬ y = (e0 * 6 + d0) / 6 := fun z => c (by rw [hx, z, hst])
        rcases sp with ⟨a1, _⟩ | ⟨_, _, a3, a4, _⟩
        · exact a1
        · obtain ⟨q, hq1, hq2⟩ := pko _ a4
          exact absurd a3 ((b2.resolve_left c2) _ q hq1 hq2)
    rw [hz, b1, bp_0]
    exact ⟨rfl, fun z => absurd rfl z⟩
  · have c : ¬ gx s i 1 = nI y := fun z => b1 (by
      rw [hst]
      exact (nI_eq (by omega) (by omega)).mp (z.symm.trans hx))
    have hz : z_path s sn i y (nI mo) = k := by
      unfold z_path
      rw [if_pos ⟨h0, c⟩]
      have hP : (zgo s sn i k).1 = true ∧ (zgo s sn i k).2.1 = nI y := by
        rw [(pok k q b5).2]; exact ⟨rfl, by rw [b6]⟩
      have hk : k ≤ 1092 := (ln_le 6 k).mp (by omega)
      rcases sp with ⟨_, a2⟩ | ⟨a1, a2, a3, a4, a5⟩
      · exact absurd hP (a2 k (by omega) (by omega) b4)
      · obtain ⟨q2, hq1, hq2⟩ := pko _ a4
        have r1 := b8 _ q2 hq1 hq2 a3
        exact Nat.le_antisymm (Nat.le_of_not_lt (fun z => a5 k (by omega) z hP)) r1
    rw [hz, b3]
    exact ⟨rfl, fun _ => by rw [b7, (pok k q b5).2]⟩
theorem RGd.way0 (h : RGd T sn dn G s) {i : Nat} (hi : i < 8) (Q : Nat → Nat) (y : Nat) : bbest (bway G i (hdg G i) (nI 0) Q) y = 0 := by
  obtain ⟨e0, d0, he, hd, h2, h3, hh⟩ := h.st hi
  rw [hh]
  obtain ⟨κ, bd, hB, hG⟩ := bway_fin (mo := 0) (by omega) he hd h2 Q
  rcases hB.best hG y with ⟨b1, _⟩ | ⟨k, q, _, b2, _, b4, _⟩
  · exact b1
  · have := ln_pos b2
    omega
theorem steps_sunk {F : Nat → Int32} (h : ¬ 0 < F 4) (w f : Int32) : k_steps F w f = 0 := if_pos (Or.inl h)
theorem RGd.wayb (h : RGd T sn dn G s) {i : Nat} (hi : i < sn) {mo : Nat} (hmo : mo ≤ 6) (hsk : ¬ 0 < shF G i 4 → mo = 0) (Q : Nat → Nat) {y : Nat} (hy : y < 81) : bbest (bway G i (hdg G i) (nI mo) Q) y = bp (z_path s sn i y (nI mo)) := by
  by_cases hf : 0 < shF G i 4
  · exact (h.wayq hi hf hmo Q hy).1
  · have := hsk hf
    subst this
    rw [h.way0 (by have := h.n; omega), z_path_sunk (fun z => hf ((h.fl hi).mp z)), bp_0]
theorem tie_way (hG : RG T sn C.1.1 M.2.1) (Q : Nat → Nat) (x y v : Int32) : p_way C Q x y v = zp_way M.2.1 sn x y v := by
  have hn := hG.n
  unfold p_way zp_way
  rcases hG.known x with ⟨hx, e⟩ | ⟨i, hi, rfl, e⟩
  · rw [e, if_neg (fun z => hx z.1)]
  · rw [e]
    show (if (0 ≤ y ∧ y < 81) ∧ 0 ≤ v ∧ v ≤ 2 then btell (bway C.1.1 i (hdg C.1.1 i) (k_now C.1.1 i) Q) y.toNatClampNeg v else -1) = _
    by_cases hy : (0 ≤ y ∧ y < 81) ∧ 0 ≤ v ∧ v ≤ 2
    · rw [if_pos hy, if_pos (show (0 ≤ nI i ∧ nI i < nI sn) ∧ (0 ≤ y ∧ y ≤ 80) ∧ 0 ≤ v ∧ v ≤ 2 from ⟨in_sn hi hn, (hex_r y).mp hy.1, hy.2⟩)]
      dsimp only
      rw [nI_clamp (show i < 2 ^ 31 by omega), ← hG.now hi]
      obtain ⟨a, ha, ea⟩ := i_nI (n := 81) hy.1.1 hy.1.2 (by decide)
      obtain ⟨m, hm, em⟩ := hG.nowB (show i < 8 by omega)
      rw [ea, em, nI_clamp (show a < 2 ^ 31 by omega)]
      have hsk : ¬ 0 < shF C.1.1 i 4 → m = 0 := fun z => by
        unfold k_now at em
        rw [steps_sunk z] at em
        exact ((nI_eq (a := 0) (by decide) (by omega)).mp em).symm
      have hb := hG.wayb hi hm hsk Q ha
      unfold btell
      rw [hb]
      by_cases c : z_path M.2.1 sn i a (nI m) = 0
      · rw [if_pos c, c, bp_0, if_pos rfl]
      · have hf : 0 < shF C.1.1 i 4 := Classical.byContradiction (fun z => c (z_path_sunk (fun y => z ((hG.fl hi).mp y)) _ _ _))
        rw [if_neg c, if_neg (bp_pos c), nd_bp, (hG.wayq hi hf hm Q ha).2 c]
    · rw [if_neg hy, if_neg (show ¬ ((0 ≤ nI i ∧ nI i < nI sn) ∧ (0 ≤ y ∧ y ≤ 80) ∧ 0 ≤ v ∧ v ≤ 2) from fun z => hy ⟨(hex_r y).mpr z.2.1, z.2.2⟩)]
theorem z_cm_spec (s : Nat → Int32) (sn i : Nat) {mo : Nat} (hmo : mo < 100) (y : Nat) : ∀ (n k : Nat) (c : Nat → Int32), k + n ≤ 1093 → (¬ z_cm s sn i (nI mo) n k c y = 0 ↔ ¬ c y = 0 ∨ ∃ a, k ≤ a ∧ a < k + n ∧ ln a ≤ mo ∧ (zgo s sn i a).1 = true ∧ (zgo s sn i a).2.1.toNatClampNeg = y)
  | 0, k, c, _ => ⟨fun z => Or.inl z, fun z => z.elim id (fun ⟨a, h1, h2, _⟩ => absurd h2 (by omega))⟩
  | n + 1, k, c, hk => by
    have hl7 : ln k ≤ 7 := (ln_le 7 k).mpr (Nat.le_trans (show k ≤ 1093 by omega) (by decide))
    rw [z_cm_s]
    by_cases q : nI (ln k) ≤ nI mo
    · rw [if_pos q, z_cm_spec s sn i hmo y n (k + 1) _ (by omega)]
      have q := (nI_leI (by omega) (by omega)).mp q
      by_cases o : (zgo s sn i k).1 = true
      · rw [if_pos o]
        constructor
        · rintro (z | ⟨a, h1, h2, h3⟩)
          · by_cases e : y = (zgo s sn i k).2.1.toNatClampNeg
            · exact Or.inr ⟨k, Nat.le_refl _, by omega, q, o, e.symm⟩
            · rw [pk_un e] at z; exact Or.inl z
          · exact Or.inr ⟨a, by omega, by omega, h3⟩
        · rintro (z | ⟨a, h1, h2, h3, h4, h5⟩)
          · by_cases e : y = (zgo s sn i k).2.1.toNatClampNeg
            · subst e; rw [pk_us]; exact Or.inl (by decide)
            · rw [pk_un e]; exact Or.inl z
          · by_cases e : a = k
            · subst e; subst h5; rw [pk_us]; exact Or.inl (by decide)
            · exact Or.inr ⟨a, by omega, by omega, h3, h4, h5⟩
      · rw [if_neg o]
        constructor
        · rintro (z | ⟨a, h1, h2, h3⟩)
          · exact Or.inl z
          · exact Or.inr ⟨a, by omega, by omega, h3⟩
        · rintro (z | ⟨a, h1, h2, h3, h4, h5⟩)
          · exact Or.inl z
          · by_cases e : a = k
            · subst e; exact absurd h4 o
            · exact Or.inr ⟨a, by omega, by omega, h3, h4, h5⟩
    · rw [if_neg q]
      refine ⟨fun z => Or.inl z, fun z => z.elim id (fun ⟨a, h1, h2, h3, _⟩ => absurd ?_ q)⟩
      exact (nI_leI (by omega) (by omega)).mpr (Nat.le_trans (ln_mono h1) h3)
theorem breach_s (B : Bm) (x : Nat) : breach B (x + 1) = breach B x + if 0 < bbest B x then 1 else 0 := rfl
theorem tie_reach (hG : RG T sn C.1.1 M.2.1) (Q : Nat → Nat) (x : Int32) (c : Nat → Int32) (hc : ∀ j, j < 81 → c j = 0) : p_reach C Q x = zp_reach M.2.1 sn x c := by
  have hn := hG.n
  unfold p_reach zp_reach
  rcases hG.known x with ⟨hx, e⟩ | ⟨i, hi, rfl, e⟩
  · rw [e, if_neg hx]
  · rw [e, if_pos (in_sn hi hn), nI_clamp (show i < 2 ^ 31 by omega), ← hG.now hi]
    obtain ⟨m, hm, em⟩ := hG.nowB (show i < 8 by omega)
    show nI (breach (bway C.1.1 i (hdg C.1.1 i) (k_now C.1.1 i) Q) 81) = _
    rw [em]
    have hsk : ¬ 0 < shF C.1.1 i 4 → m = 0 := fun z => by
      unfold k_now at em
      rw [steps_sunk z] at em
      exact ((nI_eq (a := 0) (by decide) (by omega)).mp em).symm
    have key : ∀ y, y < 81 → (0 < bbest (bway C.1.1 i (hdg C.1.1 i) (nI m) Q) y ↔ ¬ z_cm M.2.1 sn i (nI m) 1092 1 c y = 0 ∧ ¬ nI y = gx M.2.1 i 1) := fun y hy => by
      rw [hG.wayb hi hm hsk Q hy, z_cm_spec _ _ _ (by omega) _ _ _ _ (by decide)]
      have sp := z_ptk_spec M.2.1 sn i y (mo := m) (by omega) 1092 1 (by decide)
      by_cases hf : 0 < shF C.1.1 i 4
      · obtain ⟨e0, d0, he, hd, h2, h3, _⟩ := hG.st (show i < 8 by omega)
        have hhex : ∀ a, (zgo M.2.1 sn i a).1 = true → ((zgo M.2.1 sn i a).2.1.toNatClampNeg = y ↔ (zgo M.2.1 sn i a).2.1 = nI y) := fun a ha => by
          rcases hG.pth hi hf he hd h2 h3 a with ⟨q, a1, a2, a3⟩ | ⟨_, a2⟩
          · rw [a3]
            show (nI (q / 6)).toNatClampNeg = y ↔ nI (q / 6) = nI y
            rw [nI_clamp (by omega), nI_eq (by omega) (by omega)]
          · rw [a2] at ha; cases ha
        have h0 : 0 ≤ gx M.2.1 i 1 := (hG.fl hi).mpr hf
        unfold z_path
        by_cases cc : gx M.2.1 i 1 = nI y
        · rw [if_neg (fun z => z.2 cc), bp_0]
          exact ⟨fun z => absurd z (Nat.lt_irrefl 0), fun z => absurd cc.symm z.2⟩
        · rw [if_pos ⟨h0, cc⟩]
          rcases sp with ⟨a1, a2⟩ | ⟨a1, a2, a3, a4, _⟩
          · rw [a1, bp_0]
            refine ⟨fun z => absurd z (Nat.lt_irrefl 0), fun z => ?_⟩
            rcases z.1 with z | ⟨a, g1, g2, g3, g4, g5⟩
            · exact absurd (hc y hy) z
            · exact absurd ⟨g4, (hhex a g4).mp g5⟩ (a2 a g1 g2 g3)
          · have hp := bp_pos (k := z_ptk M.2.1 sn i y (nI m) 1092 1) (by omega)
            exact ⟨fun _ => ⟨Or.inr ⟨_, a1, a2, a3, a4.1, (hhex _ a4.1).mpr a4.2⟩, fun z => cc z.symm⟩, fun _ => Nat.pos_of_ne_zero hp⟩
      · have hm0 := hsk hf
        subst hm0
        rw [z_path_sunk (fun z => hf ((hG.fl hi).mp z)), bp_0]
        refine ⟨fun z => absurd z (Nat.lt_irrefl 0), fun z => ?_⟩
        rcases z.1 with z | ⟨a, g1, g2, g3, _⟩
        · exact absurd (hc y hy) z
        · have := ln_pos (k := a) (by omega)
          omega
    have : ∀ n, n ≤ 81 → kf (z_ct M.2.1 i (z_cm M.2.1 sn i (nI m) 1092 1 c)) 0 0 n = nI (breach (bway C.1.1 i (hdg C.1.1 i) (nI m) Q) n) := by
      intro n
      induction n with
      | zero => intro _; rfl
      | succ n ih =>
        intro hn1
        rw [kf_snoc, ih (by omega), Nat.zero_add, breach_s]
        unfold z_ct
        by_cases q : 0 < bbest (bway C.1.1 i (hdg C.1.1 i) (nI m) Q) n
        · rw [if_pos ((key n (by omega)).mp q), if_pos q, nI_1]
        · rw [if_neg (fun z => q ((key n (by omega)).mpr z)), if_neg q, Int32.add_zero, Nat.add_zero]
    exact (this 81 (Nat.le_refl _)).symm
theorem kq_ext {f g : Nat → Int32} : ∀ (n i : Nat) (b m : Int32), (∀ j, i ≤ j → j < i + n → f j = g j) → kq f b m i n = kq g b m i n
  | 0, _, _, _, _ => rfl
  | n + 1, i, b, m, h => by
    rw [kq_s, kq_s, h i (Nat.le_refl _) (by omega)]
    have r : ∀ b m, kq f b m (i + 1) n = kq g b m (i + 1) n := fun b m => kq_ext n (i + 1) b m (fun j h1 h2 => h j (by omega) (by omega))
    rw [r, r]
theorem kq_0 {f : Nat → Int32} (b : Int32) : ∀ (n i : Nat), (∀ j, i ≤ j → j < i + n → f j = 0) → kq f b 0 i n = (b, 0)
  | 0, _, _ => rfl
  | n + 1, i, h => by
    rw [kq_s, h i (Nat.le_refl _) (by omega), if_pos (Int32.le_refl 0)]
    exact kq_0 b n (i + 1) (fun j h1 h2 => h j (by omega) (by omega))
/-- with less steps: the way stays, if it is short enough -/
theorem z_path_mo {i y m : Nat} (hm : m ≤ 6) : z_path s sn i y (nI m) ≠ 0 ↔ z_path s sn i y (nI 6) ≠ 0 ∧ ln (z_path s sn i y (nI 6)) ≤ m := by
  unfold z_path
  by_cases c : 0 ≤ gx s i 1 ∧ ¬ gx s i 1 = nI y
  · rw [if_pos c, if_pos c]
    have s1 := z_ptk_spec s sn i y (mo := m) (by omega) 1092 1 (by decide)
    have s6 := z_ptk_spec s sn i y (mo := 6) (by omega) 1092 1 (by decide)
    rcases s1 with ⟨a1, a2⟩ | ⟨a1, a2, a3, a4, a5⟩
    · refine ⟨fun z => absurd a1 z, fun z => ?_⟩
      rcases s6 with ⟨b1, _⟩ | ⟨b1, b2, b3, b4, b5⟩
      · exact absurd b1 z.1
      · exact absurd b4 (a2 _ b1 b2 z.2)
    · refine ⟨fun _ => ?_, fun _ => by omega⟩
      rcases s6 with ⟨b1, b2⟩ | ⟨b1, b2, b3, b4, b5⟩
      · exact absurd a4 (b2 _ a1 a2 (by omega))
      · have : z_ptk s sn i y (nI 6) 1092 1 ≤ z_ptk s sn i y (nI m) 1092 1 := Nat.le_of_not_lt (fun z => b5 _ a1 z a4)
        exact ⟨by omega, Nat.le_trans (ln_mono this) a3⟩
  · rw [if_neg c, if_neg c]
    exact ⟨fun z => absurd rfl z, fun z => absurd rfl z.1⟩
theorem hold_has {hd w : Nat} (hw : w < 6) : k_hold (nI hd) (nI w) = z_has (nI hd) (nI w) := by
  unfold k_hold z_has
  refine decide_eq_decide.mpr ⟨fun z => z.2, fun z => ⟨⟨nI_pos' (by omega), (nI_ltI (b := 6) (by omega) (by decide)).mpr hw⟩, z⟩⟩
theorem wind_parts {T sn : Nat} {dn : Nat → Int32 → Int32} {G : Gm} {s : Nat → Int32} (h : RGd T sn dn G s) {a b : Nat} (ha : a < 6) (hb : b < 6) : ∃ D f, D < 6 ∧ 1 ≤ f ∧ f ≤ 3 ∧ k_dir G (nI a + nI b) = nI D ∧ k_str (nI a + nI b) = nI f ∧ zp_wind s (nI a) (nI b) = nI (10 * D + f) := by
  obtain ⟨w, hw, ew⟩ := h.dB
  refine ⟨(w + (a + b)) % 6, (a + b) % 3 + 1, Nat.mod_lt _ (by decide), by omega, by omega, ?_, ?_, ?_⟩
  · unfold k_dir
    rw [ew, nI_add, nI_add, show (6 : Int32) = nI 6 from rfl, pk_rem (by omega) (by decide) (by decide)]
  · unfold k_str
    rw [nI_add, show (3 : Int32) = nI 3 from rfl, pk_rem (by omega) (by decide) (by decide), nI_1]
  · unfold zp_wind
    have r : ∀ q, q < 6 → 0 ≤ nI q ∧ nI q ≤ 5 := fun q hq => ⟨nI_pos' (by omega), (nI_leI (b := 5) (by omega) (by decide)).mpr (by omega)⟩
    rw [if_pos ⟨r a ha, r b hb⟩, h.s2, ew, nI_add, nI_add, nI_add, show (6 : Int32) = nI 6 from rfl, pk_rem (by omega) (by decide) (by decide), show (3 : Int32) = nI 3 from rfl, pk_rem (by omega) (by decide) (by decide), show (10 : Int32) = nI 10 from rfl, pk_mul, nI_add, nI_1, show w + a + b = w + (a + b) by omega]
    rfl
theorem tie_best (hG : RG T sn C.1.1 M.2.1) (Q : Nat → Nat) (x y v : Int32) : p_best C Q x y v = zp_best M.2.1 sn x y v := by
  have hn := hG.n
  unfold p_best zp_best
  rcases hG.known x with ⟨hx, e⟩ | ⟨i, hi, rfl, e⟩
  · rw [e, if_neg (fun z => hx z.1)]
  · rw [e]
    show (if (0 ≤ y ∧ y < 81) ∧ 0 ≤ v ∧ v ≤ 1 then k_card C.1.1 i (nI (nd (bbest (bway C.1.1 i (hdg C.1.1 i) 6 Q) y.toNatClampNeg))) v else -1) = _
    by_cases hy : (0 ≤ y ∧ y < 81) ∧ 0 ≤ v ∧ v ≤ 1
    · rw [if_pos hy, if_pos (show (0 ≤ nI i ∧ nI i < nI sn) ∧ (0 ≤ y ∧ y ≤ 80) ∧ 0 ≤ v ∧ v ≤ 1 from ⟨in_sn hi hn, (hex_r y).mp hy.1, hy.2⟩)]
      dsimp only
      obtain ⟨a, ha, ea⟩ := i_nI (n := 81) hy.1.1 hy.1.2 (by decide)
      obtain ⟨cc, hcc, ecc⟩ := (hG.shp i (by omega)).1
      have hr := hG.shr i hi
      rw [nI_clamp (show i < 2 ^ 31 by omega), ea, nI_clamp (show a < 2 ^ 31 by omega), hr.1, ecc, nI_clamp (show cc < 2 ^ 31 by omega), show (6 : Int32) = nI 6 from rfl]
      have hpick : ∀ r : Int32 × Int32, k_pick r v = if r.1 = -9 ∨ v = 0 then r.1 else r.2 := fun r => by
        unfold k_pick
        by_cases c1 : v = 0
        · rw [if_pos (Or.inl c1), if_pos (Or.inr c1)]
        · by_cases c2 : r.1 = -9
          · rw [if_pos (Or.inr c2), if_pos (Or.inl c2)]
          · rw [if_neg (fun z => z.elim c1 c2), if_neg (fun z => z.elim c2 c1)]
      have hstp : ∀ j k, j < 6 → k < 6 → ∃ D f m, m ≤ 6 ∧ k_dir C.1.1 (nI j + nI k) = nI D ∧ k_str (nI j + nI k) = nI f ∧ k_steps (shF C.1.1 i) (nI D) (nI f) = nI m ∧ z_steps M.2.1 i (zp_wind M.2.1 (nI j) (nI k) / 10) (zp_wind M.2.1 (nI j) (nI k) - zp_wind M.2.1 (nI j) (nI k) / 10 * 10) = nI m := fun j k hj hk => by
        obtain ⟨D, f, hD, hf1, hf3, e1, e2, e3⟩ := wind_parts hG hj hk
        obtain ⟨m, hm, em⟩ := steps_nI (hG.shp i (by omega)) hD hf3
        refine ⟨D, f, m, hm, e1, e2, em, ?_⟩
        rw [e3, nI_d10 (by omega), show (10 : Int32) = nI 10 from rfl, pk_mul, pk_sub (by omega), show (10 * D + f) / 10 = D by omega, show 10 * D + f - D * 10 = f by omega, ← hG.steps hi ⟨D, hD, rfl⟩, em]
      have hcap := hG.cap cc hcc
      have hcap2 := hG.cap (1 - cc) (by omega)
      obtain ⟨hd, _, _, p2, p3, _⟩ := hcap
      obtain ⟨hd2, _, _, r2, r3, _⟩ := hcap2
      rw [show 4 + (1 - cc) = 5 - cc by omega] at r3
      by_cases hf : 0 < shF C.1.1 i 4
      · have hw := (hG.wayq hi hf (mo := 6) (by decide) Q ha).1
        rw [hw, nd_bp]
        by_cases hz : z_path M.2.1 sn i a (nI 6) = 0
        · rw [hz, ln_0]
          unfold k_card
          rw [if_neg (by decide), kq_0 (f := z_bf M.2.1 sn i cc a) (-9) 6 0 (fun j _ hj => ?_)]
          · rw [if_pos (Or.inl rfl)]
          · unfold z_bf
            split
            · refine kf_id _ _ _ (fun b k _ hk => ?_)
              obtain ⟨D, f, m, hm, _, _, _, e4⟩ := hstp j k (by omega) (by omega)
              unfold z_cards
              rw [e4, if_neg (fun z => ((z_path_mo hm).mp z.2).1 hz), Int32.add_zero]
            · rfl
        · have hpos := ln_pos hz
          have hl6 : ln (z_path M.2.1 sn i a (nI 6)) ≤ 6 := ((z_path_mo (show 6 ≤ 6 by decide)).mp hz).2
          unfold k_card
          rw [if_pos (show (0 : Int32) < nI (ln (z_path M.2.1 sn i a (nI 6))) from (nI_ltI (a := 0) (by decide) (by omega)).mpr hpos), hpick, kq_ext (g := z_bf M.2.1 sn i cc a) 6 0 (-9) 0 (fun j _ hj => ?_)]
          unfold k_cf z_bf
          rw [ecc, cix_nI hcc, p2, p3, hold_has (show j < 6 by omega)]
          by_cases cj : z_has (nI hd) (nI j) = true
          · rw [if_pos cj, if_pos cj]
            unfold k_help
            refine kf_ext _ _ _ (fun b k _ hk => ?_)
            obtain ⟨D, f, m, hm, e1, e2, e3, e4⟩ := hstp j k (by omega) (by omega)
            unfold z_cards
            rw [e1, e2, e3, e4, r3, show (1 : Int32) - nI cc = nI (1 - cc) from by rw [show (1 : Int32) = nI 1 from rfl, pk_sub (by omega)], cix_nI (by omega), r2, hold_has (show k < 6 by omega)]
            have iff1 : nI (ln (z_path M.2.1 sn i a (nI 6))) ≤ nI m ↔ ¬ z_path M.2.1 sn i a (nI m) = 0 := by
              rw [nI_leI (by omega) (by omega)]
              exact ⟨fun z => (z_path_mo hm).mpr ⟨hz, z⟩, fun z => ((z_path_mo hm).mp z).2⟩
            by_cases c1 : nI (ln (z_path M.2.1 sn i a (nI 6))) ≤ nI m
            · by_cases c2 : z_has (nI hd2) (nI k) = true
              · rw [if_pos ⟨c1, c2⟩, if_pos ⟨c2, iff1.mp c1⟩]; rfl
              · rw [if_neg (fun z => c2 z.2), if_neg (fun z => c2 z.1), Int32.add_zero]
            · rw [if_neg (fun z => c1 z.1), if_neg (fun z => c1 (iff1.mpr z.2)), Int32.add_zero]
          · rw [if_neg cj, if_neg cj]
      · have hz : ∀ mo, z_path M.2.1 sn i a mo = 0 := fun mo => z_path_sunk (fun z => hf ((hG.fl hi).mp z)) _ _ _
        have hzb : kq (z_bf M.2.1 sn i cc a) (-9) 0 0 6 = (-9, 0) := kq_0 (-9) 6 0 (fun j _ hj => by
          unfold z_bf
          split
          · refine kf_id _ _ _ (fun b k _ hk => ?_)
            unfold z_cards
            rw [hz, if_neg (fun z => z.2 rfl), Int32.add_zero]
          · rfl)
        rw [hzb, if_pos (Or.inl rfl)]
        unfold k_card
        split
        · rename_i hs
          rw [kq_0 (-9) 6 0 (fun j _ hj => ?_), hpick, if_pos (Or.inl rfl)]
          unfold k_cf
          split
          · unfold k_help
            refine kf_id _ _ _ (fun b k _ hk => ?_)
            rw [steps_sunk hf, if_neg (fun z => Int32.not_le.mpr hs z.1)]
          · rfl
        · rfl
    · rw [if_neg hy, if_neg (show ¬ ((0 ≤ nI i ∧ nI i < nI sn) ∧ (0 ≤ y ∧ y ≤ 80) ∧ 0 ≤ v ∧ v ≤ 1) from fun z => hy ⟨(hex_r y).mpr z.2.1, z.2.2⟩)]
end TF
