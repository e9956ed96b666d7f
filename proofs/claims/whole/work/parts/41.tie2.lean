/-! THE TIE: ranges, steps, shots -/
theorem lt_le {x : Int32} {n : Nat} (hn : n < 2 ^ 30) : x < nI (n + 1) ↔ x ≤ nI n := by
  rw [Int32.lt_iff_toInt_lt, Int32.le_iff_toInt_le, nI_toInt (by omega), nI_toInt (by omega)]
  omega
theorem hex_r (x : Int32) : (0 ≤ x ∧ x < 81) ↔ (0 ≤ x ∧ x ≤ 80) := by
  rw [show (81 : Int32) = nI (80 + 1) from rfl, show (80 : Int32) = nI 80 from rfl, lt_le (by decide)]
theorem six_r (x : Int32) : (0 ≤ x ∧ x < 6) ↔ (0 ≤ x ∧ x ≤ 5) := by
  rw [show (6 : Int32) = nI (5 + 1) from rfl, show (5 : Int32) = nI 5 from rfl, lt_le (by decide)]
theorem two_r (c : Int32) : (c = 0 ∨ c = 1) ↔ (0 ≤ c ∧ c ≤ 1) := by
  constructor
  · rintro (rfl | rfl) <;> decide
  · intro h
    obtain ⟨k, hk, rfl⟩ := ge0 (n := 1) h.1 (by decide) h.2
    rcases (by omega : k = 0 ∨ k = 1) with rfl | rfl
    · exact Or.inl rfl
    · exact Or.inr rfl
theorem two_nI {c : Int32} (h : c = 0 ∨ c = 1) : ∃ k, k < 2 ∧ c = nI k := h.elim (fun z => ⟨0, by decide, z⟩) (fun z => ⟨1, by decide, z⟩)
theorem cix_nI {c : Nat} (h : c < 2) : cix (nI c) = c := by
  rcases (by omega : c = 0 ∨ c = 1) with rfl | rfl <;> decide
theorem sf_eq : ∀ d e : Fin 6, (if (if nI d.1 - nI e.1 < 0 then nI d.1 - nI e.1 + 6 else nI d.1 - nI e.1) = 0 then (6 : Int32) else if (if nI d.1 - nI e.1 < 0 then nI d.1 - nI e.1 + 6 else nI d.1 - nI e.1) = 1 ∨ (if nI d.1 - nI e.1 < 0 then nI d.1 - nI e.1 + 6 else nI d.1 - nI e.1) = 5 then 8 else if (if nI d.1 - nI e.1 < 0 then nI d.1 - nI e.1 + 6 else nI d.1 - nI e.1) = 2 ∨ (if nI d.1 - nI e.1 < 0 then nI d.1 - nI e.1 + 6 else nI d.1 - nI e.1) = 4 then 4 else 0) = z_fst (nI d.1 - nI e.1 + 6 - (nI d.1 - nI e.1 + 6) / 6 * 6) := by decide +kernel
theorem sf_le : ∀ d e : Fin 6, ∃ v : Fin 9, z_fst (nI d.1 - nI e.1 + 6 - (nI d.1 - nI e.1 + 6) / 6 * 6) = nI v.1 := by decide +kernel
section TB
variable {T sn : Nat} {dn : Nat → Int32 → Int32} {G : Gm} {s : Nat → Int32}
theorem Shr.w7 {F : Nat → Int32} {i : Nat} {d : Int32 → Int32} (h : Shr T F s i d) (hp : Shp T sn F) (hn : sn ≤ 8) : gx s i 7 < 0 ↔ F 8 = -9 := by
  rw [h.2.2.2.2.2.2.2.1]
  by_cases e : F 8 = -9
  · rw [if_pos e]; exact ⟨fun _ => e, fun _ => by decide⟩
  · rw [if_neg e]
    exact ⟨fun z => absurd z (Int32.not_lt.mpr ((hp.2.2.2.2.2.2.2.1.resolve_left e).ge (by omega))), fun z => absurd z e⟩
theorem RGd.w7 (h : RGd T sn dn G s) {i : Nat} (hi : i < sn) : gx s i 7 < 0 ↔ shF G i 8 = -9 := (h.shr i hi).w7 (h.shp i (by have := h.n; omega)) h.n
theorem sf_tie {F : Nat → Int32} {d e : Nat} (hd : d < 6) (he : e < 6) (h3 : F 3 = nI d) : k_sf F (nI e) = z_fst (nI d - nI e + 6 - (nI d - nI e + 6) / 6 * 6) := by
  unfold k_sf
  rw [h3]
  exact sf_eq ⟨d, hd⟩ ⟨e, he⟩
theorem RGd.steps (h : RGd T sn dn G s) {i : Nat} (hi : i < sn) {w : Int32} (hw : nB w 6) (f : Int32) : k_steps (shF G i) w f = z_steps s i w f := by
  have hn := h.n
  have hp := h.shp i (by omega)
  have hr := h.shr i hi
  unfold k_steps z_steps
  obtain ⟨d, hd, ed⟩ := hp.2.2.1
  obtain ⟨e, he, rfl⟩ := hw
  by_cases c : 0 ≤ gx s i 1 ∧ gx s i 7 < 0
  · rw [if_pos c, if_neg (fun z => z.elim (fun z => z ((h.fl hi).mp c.1)) (fun z => z ((h.w7 hi).mp c.2))), sf_tie hd he ed, kmin_lt, hr.2.2.2.2.1, hr.2.2.2.2.2.1]
    unfold z_trn
    rw [hr.2.2.1, ed]
  · rw [if_neg c, if_pos]
    by_cases c1 : 0 < shF G i 4
    · exact Or.inr (fun z => c ⟨(h.fl hi).mpr c1, (h.w7 hi).mpr z⟩)
    · exact Or.inl c1
theorem RGd.now (h : RGd T sn dn G s) {i : Nat} (hi : i < sn) : k_now G i = z_steps s i (s 2) (s 3) := by
  unfold k_now
  rw [h.steps hi h.dB, h.s2, h.s3]
/-- how many steps at most: as a number -/
theorem steps_nI {F : Nat → Int32} (hp : Shp T sn F) {e f : Nat} (he : e < 6) (hf : f ≤ 3) : ∃ k, k ≤ 6 ∧ k_steps F (nI e) (nI f) = nI k := by
  unfold k_steps
  split
  · exact ⟨0, by decide, rfl⟩
  · obtain ⟨d, hd, ed⟩ := hp.2.2.1
    obtain ⟨v, hv⟩ := sf_le ⟨d, hd⟩ ⟨e, he⟩
    obtain ⟨a, ha, ea⟩ := hp.2.2.2.2.1
    obtain ⟨b, hb, eb⟩ := hp.2.2.2.2.2.1
    have hm : ∃ q, q ≤ 8 ∧ kmin (F 5) (F 6) = nI q := by
      rw [kmin_lt, ea, eb]
      by_cases c : nI a < nI b
      · rw [if_pos c]; exact ⟨a, by omega, rfl⟩
      · rw [if_neg c]
        have : b ≤ a := Nat.le_of_not_lt (fun z => c ((nI_ltI (by omega) (by omega)).mpr z))
        exact ⟨b, by omega, rfl⟩
    obtain ⟨q, hq, eq⟩ := hm
    rw [sf_tie hd he ed, hv, eq, pk_mul, pk_mul, show (32 : Int32) = nI 32 from rfl]
    have h1 : v.1 * f * q ≤ 192 := by
      have hv8 : v.1 ≤ 8 := by have := v.2; omega
      calc v.1 * f * q ≤ 8 * 3 * 8 := Nat.mul_le_mul (Nat.mul_le_mul hv8 hf) hq
        _ = 192 := rfl
    rw [pk_div (by omega) (by decide) (by decide)]
    exact ⟨_, by omega, rfl⟩
theorem RGd.nowB (h : RGd T sn dn G s) {i : Nat} (hi : i < 8) : ∃ k, k ≤ 6 ∧ k_now G i = nI k := by
  unfold k_now
  obtain ⟨e, he, ee⟩ := h.dB
  obtain ⟨f, hf1, hf3, ef⟩ := h.fB
  rw [ee, ef]
  exact steps_nI (h.shp i hi) he hf3
theorem z_line_far (s : Nat → Int32) (sn : Nat) (d : Int32) : ∀ (n f : Nat) (x : Int32), f ≤ (z_line s sn d n f x).2 ∧ (z_line s sn d n f x).2 ≤ f + n
  | 0, f, x => ⟨Nat.le_refl _, Nat.le_refl _⟩
  | n + 1, f, x => by
    rw [z_line_s]
    split
    · exact ⟨Nat.le_refl _, Nat.le_add_right _ _⟩
    · split
      · have := z_line_far s sn d n (f + 1) (z_next x d)
        exact ⟨by omega, by omega⟩
      · exact ⟨Nat.le_refl _, Nat.le_add_right _ _⟩
theorem z_line_who (s : Nat → Int32) (sn : Nat) (d : Int32) : ∀ (n f : Nat) (x : Int32), (z_line s sn d n f x).1 = -1 ∨ ∃ j, j < sn ∧ (z_line s sn d n f x).1 = nI j
  | 0, f, x => Or.inl rfl
  | n + 1, f, x => by
    rw [z_line_s]
    split
    · exact Or.inl rfl
    · rcases z_on_cases s sn (z_next x d) with e | ⟨j, hj, _, e⟩
      · rw [e]; exact z_line_who s sn d n (f + 1) (z_next x d)
      · rw [e]; exact Or.inr ⟨j, hj, rfl⟩
theorem RGd.al (h : RGd T sn dn G s) {d v : Nat} (hd : d < 6) (hv : v < 8) : ∀ (n q e : Nat), e < 81 → q + n < 100 → k_al G (nI d) v n (nI q) (nI e) = if (z_line s sn (nI d) n q (nI e)).1 = nI v then nI (z_line s sn (nI d) n q (nI e)).2 else 0
  | 0, q, e, _, _ => by
    rw [show z_line s sn (nI d) 0 q (nI e) = (-1, q) from rfl, if_neg (show ¬ ((-1 : Int32), q).1 = nI v from fun z => absurd (nI_pos' (show v < 2 ^ 31 by omega)) (by rw [show nI v = -1 from z.symm]; decide))]
    rfl
  | n + 1, q, e, he, hq => by
    have hn := h.n
    have hv1 : ¬ (-1 : Int32) = nI v := fun z => absurd (nI_pos' (show v < 2 ^ 31 by omega)) (by rw [← z]; decide)
    rw [k_al_s, z_line_s]
    rcases nx_cases he hd with ⟨z1, z2⟩ | ⟨y, hy, z1, z2⟩
    · rw [z1, z2, if_pos (Or.inl rfl), if_pos (Or.inl (by decide)), if_neg hv1]
    · rw [z1, z2, nI_clamp (show y < 2 ^ 31 by omega)]
      have hy9 : ¬ nI y = -9 := fun z => absurd (nI_pos' (show y < 2 ^ 31 by omega)) (by rw [z]; decide)
      have hy1 : ¬ nI y = -1 := fun z => absurd (nI_pos' (show y < 2 ^ 31 by omega)) (by rw [z]; decide)
      have hy0 : ¬ nI y < 0 := nI_pos (show y < 2 ^ 31 by omega)
      by_cases c : s (12 + y) = 1
      · rw [if_pos (Or.inr ((h.islq hy).mpr c)), if_pos (Or.inr c), if_neg hv1]
      · rw [if_neg (fun z => z.elim hy9 (fun z => c ((h.islq hy).mp z))), if_neg (show ¬ (nI y < 0 ∨ s (12 + y) = 1) from fun z => z.elim hy0 c), h.on hy1]
        rcases z_on_cases s sn (nI y) with e2 | ⟨j, hj, _, e2⟩
        · rw [e2]
          simp only []
          rw [nI_s]
          exact h.al hd hv n (q + 1) y hy (by omega)
        · rw [e2]
          simp only [shF_0]
          rfl
theorem RGd.shot (h : RGd T sn dn G s) {i : Nat} (hi : i < sn) {side : Int32} (hs : side = 0 ∨ side = 1) {v : Nat} (hv : v < sn) : k_shot G i side v = z_far s sn i side v := by
  have hn := h.n
  have hp := h.shp i (by omega)
  have hr := h.shr i hi
  have hrv := h.shr v hv
  unfold k_shot z_far
  rw [hr.1, hrv.1]
  by_cases c : 0 < shF G i 4
  · by_cases c2 : shF G i 1 = shF G v 1
    · rw [if_pos (Or.inr c2), if_neg (fun z => z.2 c2)]
    · rw [if_neg (fun z => z.elim (fun z => z c) c2), if_pos (show 0 ≤ gx s i 1 ∧ ¬ shF G i 1 = shF G v 1 from ⟨(h.fl hi).mpr c, c2⟩)]
      obtain ⟨d, hd, ed⟩ := hp.2.2.1
      obtain ⟨e, he, ee⟩ := hp.2.1
      have hx : gx s i 1 = nI e := (h.hx hi c).trans ee
      obtain ⟨k, hk, ek⟩ : ∃ k, k ≤ 4 ∧ (if side = 0 then (4 : Int32) else 1) = nI k := by
        rcases hs with rfl | rfl
        · exact ⟨4, by decide, rfl⟩
        · exact ⟨1, by decide, rfl⟩
      have w0 : z_wy s i side 0 = nI ((d + k) % 6) := by
        unfold z_wy
        rw [hr.2.2.1, ed, ek, nI_add, nI_add, Nat.add_zero, show (6 : Int32) = nI 6 from rfl, pk_rem (by omega) (by decide) (by decide)]
      have w1 : z_wy s i side 1 = nI ((d + k + 1) % 6) := by
        unfold z_wy
        rw [hr.2.2.1, ed, ek, nI_add, nI_add, show (6 : Int32) = nI 6 from rfl, pk_rem (by omega) (by decide) (by decide)]
      have d0 : nI d + nI k - (nI d + nI k) / 6 * 6 = nI ((d + k) % 6) := by
        rw [nI_add, show (6 : Int32) = nI 6 from rfl, pk_rem (by omega) (by decide) (by decide)]
      have d1 : nI d + nI k + 1 - (nI d + nI k + 1) / 6 * 6 = nI ((d + k + 1) % 6) := by
        rw [nI_add, nI_1, show (6 : Int32) = nI 6 from rfl, pk_rem (by omega) (by decide) (by decide)]
      rw [z_fr_s, z_fr_s, w0, w1]
      rw [ed, ek, ee]
      dsimp only
      rw [d0, d1]
      unfold k_along z_ln
      rw [show (1 : Int32) = nI 1 from rfl, h.al (Nat.mod_lt _ (by decide)) (show v < 8 by omega) 3 1 e he (by decide), h.al (Nat.mod_lt _ (by decide)) (show v < 8 by omega) 3 1 e he (by decide), hx]
      by_cases q0 : (z_line s sn (nI ((d + k) % 6)) 3 1 (nI e)).1 = nI v
      · have hf := z_line_far s sn (nI ((d + k) % 6)) 3 1 (nI e)
        rw [if_pos q0, if_pos q0, if_neg (nI_ne0 (n := (z_line s sn (nI ((d + k) % 6)) 3 1 (nI e)).2) (by omega) (by omega))]
      · rw [if_neg q0, if_neg q0, if_pos rfl]
        rfl
  · rw [if_pos (Or.inl c), if_neg (fun z => c ((h.fl hi).mp z.1))]
/-- what is not there yet is not hit, and hits nobody -/
theorem RGd.shot0 (h : RGd T sn dn G s) {i v : Nat} (hi : i < 8) (hv : v < 8) (side : Int32) (hs : side = 0 ∨ side = 1) (ho : sn ≤ i ∨ sn ≤ v) : k_shot G i side v = 0 := by
  have hn := h.n
  unfold k_shot
  by_cases c : 0 < shF G i 4
  · by_cases c2 : shF G i 1 = shF G v 1
    · rw [if_pos (Or.inr c2)]
    · rw [if_neg (fun z => z.elim (fun z => z c) c2)]
      have hi2 : i < sn := Nat.lt_of_not_le (fun z => absurd c (by rw [(h.fsh i z hi).1]; decide))
      have hp := h.shp i hi
      obtain ⟨d, hd, ed⟩ := hp.2.2.1
      obtain ⟨e, he, ee⟩ := hp.2.1
      obtain ⟨k, hk, ek⟩ : ∃ k, k ≤ 4 ∧ (if side = 0 then (4 : Int32) else 1) = nI k := by
        rcases hs with rfl | rfl
        · exact ⟨4, by decide, rfl⟩
        · exact ⟨1, by decide, rfl⟩
      have d0 : nI d + nI k - (nI d + nI k) / 6 * 6 = nI ((d + k) % 6) := by
        rw [nI_add, show (6 : Int32) = nI 6 from rfl, pk_rem (by omega) (by decide) (by decide)]
      have d1 : nI d + nI k + 1 - (nI d + nI k + 1) / 6 * 6 = nI ((d + k + 1) % 6) := by
        rw [nI_add, nI_1, show (6 : Int32) = nI 6 from rfl, pk_rem (by omega) (by decide) (by decide)]
      have hno : ∀ w, w < 6 → k_along G (nI e) (nI w) v = 0 := fun w hw => by
        unfold k_along
        rw [show (1 : Int32) = nI 1 from rfl, h.al hw hv 3 1 e he (by decide), if_neg]
        intro z
        rcases z_line_who s sn (nI w) 3 1 (nI e) with y | ⟨j, hj, y⟩
        · exact absurd (nI_pos' (show v < 2 ^ 31 by omega)) (by rw [← z, y]; decide)
        · have := (nI_eq (a := j) (b := v) (by omega) (by omega)).mp (y.symm.trans z)
          omega
      simp only []
      rw [ed, ek, ee, d0, d1, hno _ (Nat.mod_lt _ (by decide)), hno _ (Nat.mod_lt _ (by decide)), if_pos rfl]
  · rw [if_pos (Or.inl c)]
theorem RGd.hits (h : RGd T sn dn G s) {i : Nat} (hi : i < sn) (d : Int32) : k_hits (shF G i) d = z_hits s i d := by
  have hr := h.shr i hi
  unfold k_hits z_hits kmin
  rw [hr.2.2.2.2.2.1, hr.2.2.2.2.2.2.1]
theorem rdy_tie {r f t : Int32} (hT : T < 2 ^ 29) (h : Rdy T r f) (ht : nB t (T + 1)) : 1 < t - f ↔ ¬ t < r := by
  obtain ⟨k, hk, rfl⟩ := ht
  rcases h with ⟨rfl, rfl⟩ | ⟨a, ha, rfl, rfl⟩
  · rw [show nI k - -9 = nI (k + 9) from by rw [← nI_add k 9]; exact Int32.sub_neg]
    exact ⟨fun _ => nI_pos (by omega), fun _ => (nI_ltI (a := 1) (by decide) (by omega)).mpr (by omega)⟩
  · rw [nI_ltI (by omega) (by omega)]
    by_cases c : a ≤ k
    · rw [pk_sub c, show (1 : Int32) = nI 1 from rfl, nI_ltI (by decide) (by omega)]
      omega
    · have := pk_sneg (a := k) (b := a) (by omega) (by omega)
      exact ⟨fun z => absurd (Int32.lt_trans (show (0 : Int32) < 1 by decide) z) (Int32.not_lt.mpr (Int32.le_of_lt this)), fun z => absurd (by omega : k < a + 2) z⟩
theorem RGd.may (h : RGd T sn dn G s) (hT : T < 2 ^ 29) {i : Nat} (hi : i < sn) {k : Nat} (hk : k < 2) : z_may s i k = true ↔ ¬ G.1 0 < shF G i (9 + k) := by
  have hr := h.shr i hi
  unfold z_may
  rw [decide_eq_true_eq, h.s0]
  rcases (by omega : k = 0 ∨ k = 1) with rfl | rfl
  · exact rdy_tie hT hr.2.2.2.2.2.2.2.2.1 h.tB
  · exact rdy_tie hT hr.2.2.2.2.2.2.2.2.2.1 h.tB
end TB
