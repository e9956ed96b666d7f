/-! THE TIE: sets of ships, the looking methods -/
theorem nI_or (a b : Nat) : nI a ||| nI b = nI (a ||| b) := Int32.toBitVec_inj.1 (BitVec.ofNat_or (w := 32) (x := a) (y := b)).symm
theorem kf_snoc (f : Int32 → Nat → Int32) : ∀ (n i : Nat) (a : Int32), kf f a i (n + 1) = f (kf f a i n) (i + n)
  | 0, i, a => rfl
  | n + 1, i, a => by
    rw [kf_s, kf_snoc f n (i + 1) (f a i), kf_s, show i + 1 + n = i + (n + 1) by omega]
def mb (P : Nat → Bool) : Nat → Nat
  | 0 => 0
  | n + 1 => mb P n ||| (if P n = true then 2 ^ n else 0)
theorem mb_s (P : Nat → Bool) (n : Nat) : mb P (n + 1) = mb P n ||| (if P n = true then 2 ^ n else 0) := rfl
theorem mb_bit (P : Nat → Bool) : ∀ (n j : Nat), (mb P n).testBit j = (decide (j < n) && P j)
  | 0, j => by simp [mb]
  | n + 1, j => by
    rw [mb_s, Nat.testBit_or, mb_bit P n j]
    by_cases h : P n = true
    · rw [if_pos h, Nat.testBit_two_pow]
      by_cases e : n = j
      · subst e; simp [h]
      · have : decide (j < n + 1) = decide (j < n) := decide_eq_decide.mpr (by omega)
        rw [this]; simp [e]
    · rw [if_neg h]
      by_cases e : n = j
      · subst e; simp [h]
      · have : decide (j < n + 1) = decide (j < n) := decide_eq_decide.mpr (by omega)
        rw [this]; simp
theorem mb_lt (P : Nat → Bool) : ∀ n, mb P n < 2 ^ n
  | 0 => Nat.zero_lt_one
  | n + 1 => by
    rw [mb_s]
    refine Nat.or_lt_two_pow (Nat.lt_of_lt_of_le (mb_lt P n) (Nat.pow_le_pow_right (by decide) (Nat.le_succ n))) ?_
    split
    · exact Nat.pow_lt_pow_right (by decide) (Nat.lt_succ_self n)
    · exact Nat.pow_pos (by decide)
theorem mb_or (P Q R : Nat → Bool) (n : Nat) (h : ∀ j, j < n → (P j || Q j) = R j) : mb P n ||| mb Q n = mb R n := by
  refine Nat.eq_of_testBit_eq (fun j => ?_)
  rw [Nat.testBit_or, mb_bit, mb_bit, mb_bit]
  by_cases e : j < n
  · rw [decide_eq_true e, ← h j e]; simp
  · rw [decide_eq_false e]; simp
theorem bit_8 : ∀ j : Fin 8, (1 : Int32) <<< (nI j.1 &&& 31) = nI (2 ^ j.1) := by decide +kernel
theorem has_8 : ∀ m : Fin 256, ∀ j : Fin 8, z_has (nI m.1) (nI j.1) = m.1.testBit j.1 := by decide +kernel
theorem kf_mb {f : Int32 → Nat → Int32} {P : Nat → Bool} : ∀ n, n ≤ 8 → (∀ a j, j < n → f a j = if P j = true then a ||| 1 <<< (nI j &&& 31) else a) → kf f 0 0 n = nI (mb P n)
  | 0, _, _ => rfl
  | n + 1, hn, h => by
    rw [kf_snoc, kf_mb n (by omega) (fun a j hj => h a j (by omega)), Nat.zero_add, h _ n (Nat.lt_succ_self n), mb_s]
    by_cases e : P n = true
    · rw [if_pos e, if_pos e, bit_8 ⟨n, by omega⟩, nI_or]
    · rw [if_neg e, if_neg e, Nat.or_zero]
section TC
variable {T sn : Nat} {dn : Nat → Int32 → Int32} {G : Gm} {s : Nat → Int32}
def flP (s : Nat → Int32) (c : Int32) (j : Nat) : Bool := decide (0 ≤ gx s j 1 ∧ (c < 0 ∨ gx s j 0 = c))
theorem z_afl_mb (s : Nat → Int32) {n : Nat} (hn : n ≤ 8) (c : Int32) : z_afl s n c = nI (mb (flP s c) n) := by
  unfold z_afl
  refine kf_mb n hn (fun a j hj => ?_)
  unfold flP
  by_cases e : 0 ≤ gx s j 1 ∧ (c < 0 ∨ gx s j 0 = c)
  · rw [if_pos e, if_pos (decide_eq_true e)]
  · rw [if_neg e, if_neg (fun z => e (of_decide_eq_true z)), Int32.or_zero]
theorem z_afl_has (s : Nat → Int32) {n : Nat} (hn : n ≤ 8) (c : Int32) {j : Nat} (hj : j < n) : z_has (z_afl s n c) (nI j) = flP s c j := by
  rw [z_afl_mb s hn, has_8 ⟨_, Nat.lt_of_lt_of_le (mb_lt (flP s c) n) (Nat.pow_le_pow_right (by decide) hn)⟩ ⟨j, by omega⟩, mb_bit, decide_eq_true hj, Bool.true_and]
theorem RGd.flq (h : RGd T sn dn G s) {i : Nat} (hi : i < sn) {c : Int32} (hc : ¬ c < 0) : flP s c i = true ↔ 0 < shF G i 4 ∧ shF G i 1 = c := by
  unfold flP
  rw [decide_eq_true_eq, h.fl hi, (h.shr i hi).1]
  exact ⟨fun z => ⟨z.1, z.2.resolve_left hc⟩, fun z => ⟨z.1, Or.inr z.2⟩⟩
theorem RGd.fleet (h : RGd T sn dn G s) {c : Int32} (hc : ¬ c < 0) : k_fleet G c = z_afl s sn c := by
  have hn := h.n
  unfold k_fleet z_afl
  rw [show (8 : Nat) = sn + (8 - sn) by omega]
  refine kf_cut _ _ _ _ (fun a j _ hj => ?_) (fun a j h1 h2 => ?_)
  · have hj : j < sn := by omega
    have q := h.flq hj hc
    unfold flP at q
    rw [decide_eq_true_eq] at q
    by_cases e : 0 ≤ gx s j 1 ∧ (c < 0 ∨ gx s j 0 = c)
    · rw [if_pos e, if_pos (q.mp e)]; rfl
    · rw [if_neg e, if_neg (fun z => e (q.mpr z)), Int32.or_zero]
  · rw [if_neg (fun z => absurd z.1 (by rw [(h.fsh j (by omega) (by omega)).1]; decide))]
theorem RGd.fleets (h : RGd T sn dn G s) : k_fleet G 0 ||| k_fleet G 1 = z_afl s sn (-1) := by
  have hn := h.n
  rw [h.fleet (by decide), h.fleet (by decide), z_afl_mb s hn, z_afl_mb s hn, z_afl_mb s hn, nI_or, mb_or _ _ (flP s (-1))]
  intro j hj
  have q0 := h.flq hj (c := 0) (by decide)
  have q1 := h.flq hj (c := 1) (by decide)
  have q2 : flP s (-1) j = true ↔ 0 < shF G j 4 := by
    unfold flP
    rw [decide_eq_true_eq, h.fl hj]
    exact ⟨fun z => z.1, fun z => ⟨z, Or.inl (by decide)⟩⟩
  obtain ⟨c, hc, ec⟩ := (h.shp j (by omega)).1
  refine Bool.eq_iff_iff.mpr ?_
  rw [Bool.or_eq_true, q0, q1, q2]
  constructor
  · rintro (z | z) <;> exact z.1
  · intro z
    rcases (by omega : c = 0 ∨ c = 1) with rfl | rfl
    · exact Or.inl ⟨z, ec⟩
    · exact Or.inr ⟨z, ec⟩
theorem RGd.hulls (h : RGd T sn dn G s) {c : Int32} (hc : ¬ c < 0) : k_hulls G c = z_hulls s (z_afl s sn c) sn := by
  have hn := h.n
  unfold k_hulls z_hulls
  rw [show kf (fun a j => if 0 < shF G j 4 ∧ shF G j 1 = c then a + shF G j 4 else a) 0 0 8 = kf (fun a j => if 0 < shF G j 4 ∧ shF G j 1 = c then a + shF G j 4 else a) 0 0 (sn + (8 - sn)) by rw [show sn + (8 - sn) = 8 by omega]]
  refine kf_cut _ _ _ _ (fun a j _ hj => ?_) (fun a j h1 h2 => ?_)
  · have hj : j < sn := by omega
    have q := h.flq hj hc
    by_cases e : flP s c j = true
    · rw [if_pos (q.mp e), if_pos ((z_afl_has s hn c hj).trans e), (h.shr j hj).2.2.2.1]
    · rw [if_neg (fun z => e (q.mpr z)), if_neg (fun z => e ((z_afl_has s hn c hj).symm.trans z)), Int32.add_zero]
  · rw [if_neg (fun z => absurd z.1 (by rw [(h.fsh j (by omega) (by omega)).1]; decide))]
theorem RGd.strength (h : RGd T sn dn G s) {c : Int32} (hc : ¬ c < 0) : k_strength G c = kf (z_8th s (z_afl s sn c)) 0 0 sn / 8 := by
  have hn := h.n
  unfold k_strength
  rw [show kf (fun a j => if 0 < shF G j 4 ∧ shF G j 1 = c then a + (6 * shF G j 4 + 4 * shF G j 6 + shF G j 7 * shF G j 5) else a) 0 0 8 = kf (fun a j => if 0 < shF G j 4 ∧ shF G j 1 = c then a + (6 * shF G j 4 + 4 * shF G j 6 + shF G j 7 * shF G j 5) else a) 0 0 (sn + (8 - sn)) by rw [show sn + (8 - sn) = 8 by omega]]
  congr 1
  refine kf_cut _ _ _ _ (fun a j _ hj => ?_) (fun a j h1 h2 => ?_)
  · have hj : j < sn := by omega
    have q := h.flq hj hc
    have hr := h.shr j hj
    unfold z_8th
    by_cases e : flP s c j = true
    · rw [if_pos (q.mp e), if_pos ((z_afl_has s hn c hj).trans e), hr.2.2.2.1, hr.2.2.2.2.1, hr.2.2.2.2.2.1, hr.2.2.2.2.2.2.1]
    · rw [if_neg (fun z => e (q.mpr z)), if_neg (fun z => e ((z_afl_has s hn c hj).symm.trans z)), Int32.add_zero]
  · rw [if_neg (fun z => absurd z.1 (by rw [(h.fsh j (by omega) (by omega)).1]; decide))]
theorem RGd.targets (h : RGd T sn dn G s) {i : Nat} (hi : i < sn) {side : Int32} (hs : side = 0 ∨ side = 1) : k_targets G i side = kf (z_tg s sn i side) 0 0 sn := by
  have hn := h.n
  unfold k_targets
  rw [show kf (fun a j => if k_shot G i side j = 0 then a else a ||| 1 <<< (shF G j 0 &&& 31)) 0 0 8 = kf (fun a j => if k_shot G i side j = 0 then a else a ||| 1 <<< (shF G j 0 &&& 31)) 0 0 (sn + (8 - sn)) by rw [show sn + (8 - sn) = 8 by omega]]
  refine kf_cut _ _ _ _ (fun a j _ hj => ?_) (fun a j h1 h2 => ?_)
  · have hj : j < sn := by omega
    have q := h.shot hi hs hj
    unfold z_tg
    have hself : nI j = nI i → z_far s sn i side j = 0 := fun z => by
      have : j = i := (nI_eq (by omega) (by omega)).mp z
      subst this
      unfold z_far
      rw [if_neg (fun z => z.2 rfl)]
    have hpos : 0 < z_far s sn i side j ↔ ¬ z_far s sn i side j = 0 := by
      have hr : ∃ k, k < 2 ^ 31 ∧ z_far s sn i side j = nI k := by
        unfold z_far
        split
        · rw [z_fr_s]
          split
          · exact ⟨_, by have := (z_line_far s sn (z_wy s i side 0) 3 1 (gx s i 1)).2; unfold z_ln; omega, rfl⟩
          · rw [z_fr_s]
            split
            · exact ⟨_, by have := (z_line_far s sn (z_wy s i side (0 + 1)) 3 1 (gx s i 1)).2; unfold z_ln; omega, rfl⟩
            · exact ⟨0, by decide, rfl⟩
        · exact ⟨0, by decide, rfl⟩
      obtain ⟨k, hk, ek⟩ := hr
      rw [ek, show (0 : Int32) = nI 0 from rfl, nI_ltI (by decide) hk, nI_eq hk (by decide)]
      omega
    rw [q]
    by_cases e : z_far s sn i side j = 0
    · rw [if_pos e, if_neg (fun z => (hpos.mp z.2) e), Int32.or_zero]
    · rw [if_neg e, if_pos ⟨fun z => e (hself z), hpos.mpr e⟩]; rfl
  · rw [if_pos (h.shot0 (by omega) (by omega) side hs (Or.inr (by omega)))]
theorem z_far_pos (s : Nat → Int32) (sn i : Nat) (side : Int32) (j : Nat) : 0 < z_far s sn i side j ↔ ¬ z_far s sn i side j = 0 := by
  have hr : ∃ k, k < 2 ^ 31 ∧ z_far s sn i side j = nI k := by
    unfold z_far
    split
    · rw [z_fr_s]
      split
      · exact ⟨_, by have := (z_line_far s sn (z_wy s i side 0) 3 1 (gx s i 1)).2; unfold z_ln; omega, rfl⟩
      · rw [z_fr_s]
        split
        · exact ⟨_, by have := (z_line_far s sn (z_wy s i side (0 + 1)) 3 1 (gx s i 1)).2; unfold z_ln; omega, rfl⟩
        · exact ⟨0, by decide, rfl⟩
    · exact ⟨0, by decide, rfl⟩
  obtain ⟨k, hk, ek⟩ := hr
  rw [ek, show (0 : Int32) = nI 0 from rfl, nI_ltI (by decide) hk, nI_eq hk (by decide)]
  omega
theorem RGd.threats (h : RGd T sn dn G s) {i : Nat} (hi : i < sn) : k_threats G i = kf (z_th s sn i) 0 0 sn := by
  have hn := h.n
  unfold k_threats
  rw [show kf (fun a j => if k_shot G j 0 i = 0 ∧ k_shot G j 1 i = 0 then a else a ||| 1 <<< (shF G j 0 &&& 31)) 0 0 8 = kf (fun a j => if k_shot G j 0 i = 0 ∧ k_shot G j 1 i = 0 then a else a ||| 1 <<< (shF G j 0 &&& 31)) 0 0 (sn + (8 - sn)) by rw [show sn + (8 - sn) = 8 by omega]]
  refine kf_cut _ _ _ _ (fun a j _ hj => ?_) (fun a j h1 h2 => ?_)
  · have hj : j < sn := by omega
    have q0 := h.shot hj (Or.inl rfl) hi
    have q1 := h.shot hj (Or.inr rfl) hi
    unfold z_th
    have hself : nI j = nI i → ∀ side, z_far s sn j side i = 0 := fun z side => by
      have : j = i := (nI_eq (by omega) (by omega)).mp z
      subst this
      unfold z_far
      rw [if_neg (fun z => z.2 rfl)]
    rw [q0, q1]
    have p0 := z_far_pos s sn j 0 i
    have p1 := z_far_pos s sn j 1 i
    by_cases e : z_far s sn j 0 i = 0 ∧ z_far s sn j 1 i = 0
    · rw [if_pos e, if_neg (fun z => z.2.elim (fun y => p0.mp y e.1) (fun y => p1.mp y e.2)), Int32.or_zero]
    · rw [if_neg e, if_pos ⟨fun z => e ⟨hself z 0, hself z 1⟩, by
        by_cases e0 : z_far s sn j 0 i = 0
        · exact Or.inr (p1.mpr (fun y => e ⟨e0, y⟩))
        · exact Or.inl (p0.mpr e0)⟩]; rfl
  · rw [if_pos ⟨h.shot0 (by omega) (by omega) 0 (Or.inl rfl) (Or.inl (by omega)), h.shot0 (by omega) (by omega) 1 (Or.inr rfl) (Or.inl (by omega))⟩]
theorem RGd.isls (h : RGd T sn dn G s) : k_isls G = z_isls s := by
  unfold k_isls z_isls
  exact kf_ext _ _ _ (fun a j _ hj => by rw [(h.isl j (by omega)).2])
theorem RGd.told (h : RGd T sn dn G s) : k_told G = z_told s := by
  unfold k_told z_told
  rw [h.s1]
  rcases h.mv with e | e
  · rw [if_pos e, if_neg (show ¬ G.1 1 = 1 by rw [e]; decide)]
    have hc : ∀ c, c < 2 → (cF G c 1 = -9 ↔ s (6 + c) < 0) := fun c hc => by
      obtain ⟨hd, _, _, _, _, _, _, q⟩ := h.cap c hc
      rcases q with ⟨q1, q2⟩ | ⟨x, hx, q1, q2, _⟩
      · rw [q1, q2]; exact ⟨fun _ => by decide, fun _ => rfl⟩
      · rw [q1, q2]
        exact ⟨fun z => absurd (nI_pos' (show x < 2 ^ 31 by omega)) (by rw [z]; decide), fun z => absurd z (nI_pos (by omega))⟩
    have c0 := hc 0 (by decide)
    have c1 := hc 1 (by decide)
    by_cases a : cF G 0 1 = -9
    · by_cases b : cF G 1 1 = -9
      · rw [if_pos a, if_pos b, if_pos (c0.mp a), if_pos (c1.mp b)]
      · rw [if_pos a, if_neg b, if_pos (c0.mp a), if_neg (fun z => b (c1.mpr z))]
    · by_cases b : cF G 1 1 = -9
      · rw [if_neg a, if_pos b, if_neg (fun z => a (c0.mpr z)), if_pos (c1.mp b)]
      · rw [if_neg a, if_neg b, if_neg (fun z => a (c0.mpr z)), if_neg (fun z => b (c1.mpr z))]
  · rw [if_neg (show ¬ G.1 1 = 0 by rw [e]; decide), if_pos e]
end TC
