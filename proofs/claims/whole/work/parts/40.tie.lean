/-! THE TIE: a game of the class and a row of the reference; what both read -/
theorem ff_none {p : Nat → Bool} : ∀ (n i : Nat), (∀ j, i ≤ j → j < i + n → p j = false) → ff p i n = none
  | 0, i, _ => rfl
  | n + 1, i, h => by
    rw [ff_s, h i (Nat.le_refl i) (by omega), if_neg Bool.false_ne_true]
    exact ff_none n (i + 1) (fun j h1 h2 => h j (by omega) (by omega))
theorem ff_cut {p q : Nat → Bool} (m : Nat) : ∀ (n i : Nat), (∀ j, i ≤ j → j < i + n → p j = q j) → (∀ j, i + n ≤ j → j < i + n + m → p j = false) → ff p i (n + m) = ff q i n
  | 0, i, _, h => by
    rw [Nat.zero_add]
    exact ff_none m i (fun j h1 h2 => h j (by omega) (by omega))
  | n + 1, i, h1, h2 => by
    rw [show n + 1 + m = (n + m) + 1 by omega, ff_s, ff_s, h1 i (Nat.le_refl i) (by omega), ff_cut m n (i + 1) (fun j a b => h1 j (by omega) (by omega)) (fun j a b => h2 j (by omega) (by omega))]
theorem kf_id {f : Int32 → Nat → Int32} : ∀ (n i : Nat) (a : Int32), (∀ a j, i ≤ j → j < i + n → f a j = a) → kf f a i n = a
  | 0, i, a, _ => rfl
  | n + 1, i, a, h => by
    rw [kf_s, h a i (Nat.le_refl i) (by omega)]
    exact kf_id n (i + 1) a (fun b j h1 h2 => h b j (by omega) (by omega))
theorem kf_cut {f g : Int32 → Nat → Int32} (m : Nat) : ∀ (n i : Nat) (a : Int32), (∀ a j, i ≤ j → j < i + n → f a j = g a j) → (∀ a j, i + n ≤ j → j < i + n + m → f a j = a) → kf f a i (n + m) = kf g a i n
  | 0, i, a, _, h => by
    rw [Nat.zero_add]
    exact kf_id m i a (fun b j h1 h2 => h b j (by omega) (by omega))
  | n + 1, i, a, h1, h2 => by
    rw [show n + 1 + m = (n + m) + 1 by omega, kf_s, kf_s, h1 a i (Nat.le_refl i) (by omega), kf_cut m n (i + 1) _ (fun b j x y => h1 b j (by omega) (by omega)) (fun b j x y => h2 b j (by omega) (by omega))]
theorem kmin_lt (x y : Int32) : kmin x y = if x < y then x else y := by
  unfold kmin
  by_cases h : y < x
  · rw [if_pos h, if_neg (fun z => Int32.lt_irrefl (Int32.lt_trans h z))]
  · rw [if_neg h]
    by_cases h2 : x < y
    · rw [if_pos h2]
    · rw [if_neg h2]
      exact Int32.le_antisymm (Int32.not_lt.mp h) (Int32.not_lt.mp h2)
theorem kmax0 (x : Int32) : kmax 0 x = if x < 0 then 0 else x := by
  unfold kmax
  by_cases h : x < 0
  · rw [if_pos h, if_neg (fun z => Int32.lt_irrefl (Int32.lt_trans h z))]
  · rw [if_neg h]
    by_cases h2 : 0 < x
    · rw [if_pos h2]
    · rw [if_neg h2]
      exact Int32.le_antisymm (Int32.not_lt.mp h) (Int32.not_lt.mp h2)
/-- a number below n -/
def nB (v : Int32) (n : Nat) : Prop := ∃ k, k < n ∧ v = nI k
theorem nB.mono {v : Int32} {n m : Nat} (h : nB v n) (hm : n ≤ m) : nB v m := h.elim fun k q => ⟨k, by omega, q.2⟩
theorem nB.ge {v : Int32} {n : Nat} (h : nB v n) (hn : n ≤ 2 ^ 31) : 0 ≤ v := by
  obtain ⟨k, hk, rfl⟩ := h
  exact nI_pos' (by omega)
theorem nB.lt {v : Int32} {n : Nat} (h : nB v n) (hn : n < 2 ^ 31) : v < nI n := by
  obtain ⟨k, hk, rfl⟩ := h
  exact (nI_ltI (by omega) hn).mpr hk
theorem nB.n9 {v : Int32} {n : Nat} (h : nB v n) (hn : n ≤ 2 ^ 31) : ¬ v = -9 := fun z => absurd (h.ge hn) (by rw [z]; decide)
theorem nB.n1 {v : Int32} {n : Nat} (h : nB v n) (hn : n ≤ 2 ^ 31) : ¬ v = -1 := fun z => absurd (h.ge hn) (by rw [z]; decide)
theorem nB.pos {v : Int32} {n : Nat} (h : nB v n) (hn : n ≤ 2 ^ 31) : 0 < v ↔ ¬ v = 0 := by
  obtain ⟨k, hk, rfl⟩ := h
  rw [show (0 : Int32) = nI 0 from rfl, nI_ltI (by decide) (by omega), nI_eq (by omega) (by decide)]
  omega
theorem nB_of {v : Int32} {n : Nat} (h0 : 0 ≤ v) (h1 : v < nI n) (hn : n < 2 ^ 31) : nB v n := i_nI h0 h1 hn
def Shp (T sn : Nat) (F : Nat → Int32) : Prop := nB (F 1) 2 ∧ nB (F 2) 81 ∧ nB (F 3) 6 ∧ nB (F 4) 21 ∧ nB (F 5) 9 ∧ nB (F 6) 41 ∧ nB (F 7) 10 ∧ (F 8 = -9 ∨ nB (F 8) sn) ∧ nB (F 9) (T + 3) ∧ nB (F 10) (T + 3) ∧ nB (F 11) 8
def Rdy (T : Nat) (r f : Int32) : Prop := (r = 0 ∧ f = -9) ∨ ∃ k, k ≤ T ∧ f = nI k ∧ r = nI (k + 2)
def Shr (T : Nat) (F s : Nat → Int32) (i : Nat) (dn : Int32 → Int32) : Prop := gx s i 0 = F 1 ∧ gx s i 1 = (if F 4 = 0 then -1 else F 2) ∧ gx s i 2 = F 3 ∧ gx s i 3 = F 4 ∧ gx s i 4 = F 5 ∧ gx s i 5 = F 6 ∧ gx s i 6 = F 7 ∧ gx s i 7 = (if F 8 = -9 then -1 else F 8) ∧ Rdy T (F 9) (gx s i 8) ∧ Rdy T (F 10) (gx s i 9) ∧ gx s i 10 = dn (F 11)
def Fsh (F : Nat → Int32) : Prop := F 4 = 0 ∧ F 8 = -9 ∧ F 9 = 0 ∧ F 10 = 0 ∧ F 11 = 0
def Cap (G : Gm) (s : Nat → Int32) (c : Nat) : Prop := ∃ hd : Nat, 0 < hd ∧ hd < 64 ∧ cF G c 0 = nI hd ∧ s (4 + c) = nI hd ∧ nB (cF G c 2) 100 ∧ s (8 + c) = cF G c 2 ∧ ((cF G c 1 = -9 ∧ s (6 + c) = -1) ∨ ∃ x, x < 6 ∧ cF G c 1 = nI x ∧ s (6 + c) = nI x ∧ hd.testBit x = true ∧ G.1 1 = 0)
def idD : Nat → Int32 → Int32 := fun _ v => v
/-- the game G of the class and the row s of the reference say the same, with sn ships, up to the turn T -/
def RGd (T sn : Nat) (dn : Nat → Int32 → Int32) (G : Gm) (s : Nat → Int32) : Prop := sn ≤ 8 ∧ G.1 4 = nI sn ∧ s 10 = nI sn ∧ nB (G.1 0) (T + 1) ∧ s 0 = G.1 0 ∧ (G.1 1 = 0 ∨ G.1 1 = 1) ∧ s 1 = G.1 1 ∧ nB (G.1 2) 6 ∧ s 2 = G.1 2 ∧ (∃ f, 1 ≤ f ∧ f ≤ 3 ∧ G.1 3 = nI f) ∧ s 3 = G.1 3 ∧ s 11 = G.1 5 ∧ (∀ c, c < 2 → Cap G s c) ∧ (∀ j, j < 81 → (G.2.1 j = 0 ∨ G.2.1 j = 1) ∧ s (12 + j) = G.2.1 j) ∧ (∀ i, i < 8 → Shp T sn (shF G i)) ∧ (∀ i, i < sn → Shr T (shF G i) s i (dn i)) ∧ (∀ i, sn ≤ i → i < 8 → Fsh (shF G i)) ∧ Wok s
abbrev RG (T sn : Nat) (G : Gm) (s : Nat → Int32) : Prop := RGd T sn idD G s
section TA
variable {T sn : Nat} {dn : Nat → Int32 → Int32} {G : Gm} {s : Nat → Int32}
theorem RGd.n (h : RGd T sn dn G s) : sn ≤ 8 := h.1
theorem RGd.k4 (h : RGd T sn dn G s) : G.1 4 = nI sn := h.2.1
theorem RGd.s10 (h : RGd T sn dn G s) : s 10 = nI sn := h.2.2.1
theorem RGd.tB (h : RGd T sn dn G s) : nB (G.1 0) (T + 1) := h.2.2.2.1
theorem RGd.s0 (h : RGd T sn dn G s) : s 0 = G.1 0 := h.2.2.2.2.1
theorem RGd.mv (h : RGd T sn dn G s) : G.1 1 = 0 ∨ G.1 1 = 1 := h.2.2.2.2.2.1
theorem RGd.s1 (h : RGd T sn dn G s) : s 1 = G.1 1 := h.2.2.2.2.2.2.1
theorem RGd.dB (h : RGd T sn dn G s) : nB (G.1 2) 6 := h.2.2.2.2.2.2.2.1
theorem RGd.s2 (h : RGd T sn dn G s) : s 2 = G.1 2 := h.2.2.2.2.2.2.2.2.1
theorem RGd.fB (h : RGd T sn dn G s) : ∃ f, 1 ≤ f ∧ f ≤ 3 ∧ G.1 3 = nI f := h.2.2.2.2.2.2.2.2.2.1
theorem RGd.s3 (h : RGd T sn dn G s) : s 3 = G.1 3 := h.2.2.2.2.2.2.2.2.2.2.1
theorem RGd.s11 (h : RGd T sn dn G s) : s 11 = G.1 5 := h.2.2.2.2.2.2.2.2.2.2.2.1
theorem RGd.cap (h : RGd T sn dn G s) : ∀ c, c < 2 → Cap G s c := h.2.2.2.2.2.2.2.2.2.2.2.2.1
theorem RGd.isl (h : RGd T sn dn G s) : ∀ j, j < 81 → (G.2.1 j = 0 ∨ G.2.1 j = 1) ∧ s (12 + j) = G.2.1 j := h.2.2.2.2.2.2.2.2.2.2.2.2.2.1
theorem RGd.shp (h : RGd T sn dn G s) : ∀ i, i < 8 → Shp T sn (shF G i) := h.2.2.2.2.2.2.2.2.2.2.2.2.2.2.1
theorem RGd.shr (h : RGd T sn dn G s) : ∀ i, i < sn → Shr T (shF G i) s i (dn i) := h.2.2.2.2.2.2.2.2.2.2.2.2.2.2.2.1
theorem RGd.fsh (h : RGd T sn dn G s) : ∀ i, sn ≤ i → i < 8 → Fsh (shF G i) := h.2.2.2.2.2.2.2.2.2.2.2.2.2.2.2.2.1
theorem RGd.wok (h : RGd T sn dn G s) : Wok s := h.2.2.2.2.2.2.2.2.2.2.2.2.2.2.2.2.2
theorem shF_0 (G : Gm) (i : Nat) : shF G i 0 = nI i := rfl
/-- a ship floats: in both -/
theorem RGd.fl (h : RGd T sn dn G s) {i : Nat} (hi : i < sn) : 0 ≤ gx s i 1 ↔ 0 < shF G i 4 := by
  have hn := h.n
  have hp := h.shp i (by omega)
  rw [(h.shr i hi).2.1, hp.2.2.2.1.pos (by decide)]
  by_cases e : shF G i 4 = 0
  · rw [if_pos e]; exact ⟨fun z => absurd z (by decide), fun z => absurd e z⟩
  · rw [if_neg e]; exact ⟨fun _ => e, fun _ => hp.2.1.ge (by decide)⟩
theorem RGd.hx (h : RGd T sn dn G s) {i : Nat} (hi : i < sn) (hf : 0 < shF G i 4) : gx s i 1 = shF G i 2 := by
  have hn := h.n
  have hp := h.shp i (by omega)
  rw [(h.shr i hi).2.1, if_neg ((hp.2.2.2.1.pos (by decide)).mp hf)]
theorem RGd.on (h : RGd T sn dn G s) {x : Int32} (hx : ¬ x = -1) : k_on G x = z_on s sn x := by
  have hn := h.n
  unfold k_on z_on
  rw [show (8 : Nat) = sn + (8 - sn) by omega]
  refine ff_cut _ _ _ (fun j _ hj => ?_) (fun j hj1 hj2 => ?_)
  · have hj : j < sn := by omega
    have hp := h.shp j (by omega)
    unfold k_hit
    refine decide_eq_decide.mpr ?_
    rw [hp.2.2.2.1.pos (by decide), (h.shr j hj).2.1]
    by_cases e : shF G j 4 = 0
    · rw [if_pos e]; exact ⟨fun z => absurd e z.1, fun z => absurd z.symm hx⟩
    · rw [if_neg e]; exact ⟨fun z => z.2, fun z => ⟨e, z⟩⟩
  · have hf := h.fsh j (by omega) (by omega)
    unfold k_hit
    refine decide_eq_false (fun z => ?_)
    rw [hf.1] at z
    exact absurd z.1 (by decide)
theorem z_onv_neg (s : Nat → Int32) (n : Nat) (hn : n ≤ 8) (x : Int32) : z_onv (z_on s n x) < 0 ↔ z_on s n x = none := by
  rcases z_on_cases s n x with e | ⟨j, hj, _, e⟩
  · rw [e]; exact ⟨fun _ => rfl, fun _ => by decide⟩
  · rw [e]
    exact ⟨fun z => absurd z (Int32.not_lt.mpr (nI_pos' (show j < 2 ^ 31 by omega))), fun z => absurd z (by simp)⟩
theorem RGd.islq (h : RGd T sn dn G s) {e : Nat} (he : e < 81) : k_isl G (nI e) = true ↔ s (12 + e) = 1 := by
  unfold k_isl
  rw [decide_eq_true_eq, nI_clamp (show e < 2 ^ 31 by omega), (h.isl e he).2]
  exact ⟨fun z => z.2, fun z => ⟨⟨nI_pos' (by omega), (nI_ltI (b := 81) (by omega) (by decide)).mpr he⟩, z⟩⟩
theorem RGd.free (h : RGd T sn dn G s) {e : Nat} (he : e < 81) : k_free G (nI e) = z_free s sn e := by
  have hn := h.n
  unfold k_free z_free
  refine decide_eq_decide.mpr ?_
  rw [h.islq he, z_onv_neg s sn hn, h.on (fun z => absurd (nI_pos' (show e < 2 ^ 31 by omega)) (by rw [z]; decide)), (h.isl e he).2]
  constructor
  · rintro ⟨_, h2, h3⟩
    exact ⟨((h.isl e he).1.resolve_right h2), h3⟩
  · rintro ⟨h2, h3⟩
    exact ⟨⟨nI_pos' (by omega), (nI_ltI (b := 81) (by omega) (by decide)).mpr he⟩, fun z => absurd (h2.symm.trans z) (by decide), h3⟩
theorem RGd.known (h : RGd T sn dn G s) (x : Int32) : (¬ (0 ≤ x ∧ x < nI sn) ∧ k_known G x = none) ∨ ∃ j, j < sn ∧ x = nI j ∧ k_known G x = some j := by
  have hn := h.n
  by_cases e : 0 ≤ x ∧ x < nI sn
  · obtain ⟨j, hj, rfl⟩ := i_nI e.1 e.2 (by omega)
    refine Or.inr ⟨j, hj, rfl, ?_⟩
    unfold k_known k_val
    rw [if_pos (decide_eq_true ⟨e.1, by rw [h.k4]; exact e.2, (nI_ltI (b := 8) (by omega) (by decide)).mpr (by omega)⟩), nI_clamp (by omega)]
  · refine Or.inl ⟨e, ?_⟩
    unfold k_known k_val
    rw [if_neg (fun z => e (by
      have := of_decide_eq_true z
      rw [h.k4] at this
      exact ⟨this.1, this.2.1⟩))]
theorem in_sn {j sn : Nat} (hj : j < sn) (hn : sn ≤ 8) : 0 ≤ nI j ∧ nI j < nI sn := ⟨nI_pos' (by omega), (nI_ltI (by omega) (by omega)).mpr hj⟩
end TA
/-! geometry -/
theorem nx_eq : ∀ e : Fin 81, ∀ d : Fin 6, (z_next (nI e.1) (nI d.1) = -1 ∧ k_next (nI e.1) (nI d.1) = -9) ∨ (z_next (nI e.1) (nI d.1) = k_next (nI e.1) (nI d.1) ∧ (k_next (nI e.1) (nI d.1)).toNatClampNeg < 81 ∧ k_next (nI e.1) (nI d.1) = nI (k_next (nI e.1) (nI d.1)).toNatClampNeg) := by decide +kernel
theorem nx_cases {e d : Nat} (he : e < 81) (hd : d < 6) : (z_next (nI e) (nI d) = -1 ∧ k_next (nI e) (nI d) = -9) ∨ ∃ y, y < 81 ∧ z_next (nI e) (nI d) = nI y ∧ k_next (nI e) (nI d) = nI y := by
  rcases nx_eq ⟨e, he⟩ ⟨d, hd⟩ with z | ⟨z1, z2, z3⟩
  · exact Or.inl z
  · exact Or.inr ⟨_, z2, z1.trans z3, z3⟩
theorem nbr_eq : ∀ e : Fin 81, ∀ y : Fin 81, z_bes (nI e.1) (nI y.1) 6 = k_nbr (nI e.1) (nI y.1) 6 := by decide +kernel
