/-! WHAT HOLDS of a game all along the law, and what its readers tell then -/
theorem mb_or (P Q R : Nat → Bool) (n : Nat) (h : ∀ j, j < n → (P j || Q j) = R j) : mb P n ||| mb Q n = mb R n := by
  refine Nat.eq_of_testBit_eq (fun j => ?_)
  rw [Nat.testBit_or, mb_bit, mb_bit, mb_bit]
  by_cases e : j < n
  · rw [decide_eq_true e, ← h j e]; simp
  · rw [decide_eq_false e]; simp
def Sh (F : Nat → Int32) : Prop := nB (F 1) 2 ∧ nB (F 2) 81 ∧ nB (F 3) 6 ∧ nB (F 4) 21 ∧ nB (F 5) 9 ∧ nB (F 6) 41 ∧ nB (F 7) 10 ∧ nB (F 11) 8
def hv (G : Gm) (i k : Nat) : Nat := (shF G i k).toNatClampNeg
def IvG (sn T : Nat) (G : Gm) : Prop := sn ≤ 8 ∧ G.1 4 = nI sn ∧ G.1 0 = nI T ∧ T ≤ 4 ∧ nB (G.1 2) 6 ∧ (∃ f, 1 ≤ f ∧ f ≤ 3 ∧ G.1 3 = nI f) ∧ (∀ c, c < 2 → (∃ hd, 0 < hd ∧ hd < 64 ∧ cF G c 0 = nI hd) ∧ cF G c 1 = -9 ∧ nB (cF G c 2) 100) ∧ ∀ e, e < 81 → G.2.1 e = 0 ∨ G.2.1 e = 1
def IvS (sn : Nat) (G : Gm) : Prop := (∀ i, i < 8 → Sh (shF G i)) ∧ ∀ i, sn ≤ i → i < 8 → shF G i 4 = 0 ∧ shF G i 8 = -9
def IvX (G : Gm) : Prop := (∀ i j, i < 8 → j < 8 → i ≠ j → ¬ shF G i 4 = 0 → ¬ shF G j 4 = 0 → ¬ shF G i 2 = shF G j 2) ∧ ∀ i e, i < 8 → e < 81 → ¬ shF G i 4 = 0 → shF G i 2 = nI e → G.2.1 e = 0
def IvP (sn : Nat) (G : Gm) : Prop := ∀ i, i < 8 → shF G i 8 = -9 ∨ ∃ j, j < sn ∧ shF G i 8 = nI j ∧ shF G j 8 = nI i ∧ ¬ shF G j 1 = shF G i 1 ∧ ¬ shF G i 4 = 0
def Inv (sn T : Nat) (G : Gm) : Prop := IvG sn T G ∧ IvS sn G ∧ IvX G ∧ IvP sn G
theorem kn_m9 (G : Gm) : k_known G (-9) = none := by
  rw [k_known, if_neg (fun z => absurd (of_decide_eq_true z).1 (by decide))]
theorem on_h {G : Gm} {x : Int32} {j : Nat} (e : k_on G x = some j) : j < 8 ∧ 0 < shF G j 4 ∧ shF G j 2 = x := by
  rcases k_on_cases G x with q | ⟨a, ha, hh, q⟩
  · rw [q] at e; cases e
  · rw [q] at e; cases e; exact ⟨ha, of_decide_eq_true hh⟩
theorem nI81 {e : Nat} (he : e < 81) : 0 ≤ nI e ∧ nI e < 81 := ⟨nI_pos' (by omega), (nI_ltI (b := 81) (by omega) (by decide)).mpr he⟩
theorem nIne {a b : Nat} (ha : a < 2 ^ 31) (hb : b < 2 ^ 31) (h : a ≠ b) : ¬ nI a = nI b := fun z => h ((nI_eq ha hb).mp z)
theorem nI9 {a : Nat} (ha : a < 2 ^ 31) : ¬ nI a = -9 := fun z => absurd (nI_pos' ha) (by rw [z]; decide)
section IV
variable {sn T : Nat} {G : Gm}
theorem Inv.n (h : Inv sn T G) : sn ≤ 8 := h.1.1
theorem Inv.k4 (h : Inv sn T G) : G.1 4 = nI sn := h.1.2.1
theorem Inv.k0 (h : Inv sn T G) : G.1 0 = nI T := h.1.2.2.1
theorem Inv.t4 (h : Inv sn T G) : T ≤ 4 := h.1.2.2.2.1
theorem Inv.dB (h : Inv sn T G) : nB (G.1 2) 6 := h.1.2.2.2.2.1
theorem Inv.fB (h : Inv sn T G) : ∃ f, 1 ≤ f ∧ f ≤ 3 ∧ G.1 3 = nI f := h.1.2.2.2.2.2.1
theorem Inv.cp (h : Inv sn T G) : ∀ c, c < 2 → (∃ hd, 0 < hd ∧ hd < 64 ∧ cF G c 0 = nI hd) ∧ cF G c 1 = -9 ∧ nB (cF G c 2) 100 := h.1.2.2.2.2.2.2.1
theorem Inv.isl (h : Inv sn T G) : ∀ e, e < 81 → G.2.1 e = 0 ∨ G.2.1 e = 1 := h.1.2.2.2.2.2.2.2
theorem Inv.sh (h : Inv sn T G) {i : Nat} (hi : i < 8) : Sh (shF G i) := h.2.1.1 i hi
theorem Inv.ub (h : Inv sn T G) {i : Nat} (h1 : sn ≤ i) (hi : i < 8) : shF G i 4 = 0 ∧ shF G i 8 = -9 := h.2.1.2 i h1 hi
theorem Inv.px (h : Inv sn T G) {i j : Nat} (hi : i < 8) (hj : j < 8) (hn : i ≠ j) (h1 : ¬ shF G i 4 = 0) (h2 : ¬ shF G j 4 = 0) : ¬ shF G i 2 = shF G j 2 := h.2.2.1.1 i j hi hj hn h1 h2
theorem Inv.pxi (h : Inv sn T G) {i e : Nat} (hi : i < 8) (he : e < 81) (h1 : ¬ shF G i 4 = 0) (h2 : shF G i 2 = nI e) : G.2.1 e = 0 := h.2.2.1.2 i e hi he h1 h2
theorem Inv.pr (h : Inv sn T G) {i : Nat} (hi : i < 8) : shF G i 8 = -9 ∨ ∃ j, j < sn ∧ shF G i 8 = nI j ∧ shF G j 8 = nI i ∧ ¬ shF G j 1 = shF G i 1 ∧ ¬ shF G i 4 = 0 := h.2.2.2 i hi
theorem Inv.s1 (h : Inv sn T G) {i : Nat} (hi : i < 8) : nB (shF G i 1) 2 := (h.sh hi).1
theorem Inv.s2 (h : Inv sn T G) {i : Nat} (hi : i < 8) : nB (shF G i 2) 81 := (h.sh hi).2.1
theorem Inv.s3 (h : Inv sn T G) {i : Nat} (hi : i < 8) : nB (shF G i 3) 6 := (h.sh hi).2.2.1
theorem Inv.s4 (h : Inv sn T G) {i : Nat} (hi : i < 8) : nB (shF G i 4) 21 := (h.sh hi).2.2.2.1
theorem Inv.s5 (h : Inv sn T G) {i : Nat} (hi : i < 8) : nB (shF G i 5) 9 := (h.sh hi).2.2.2.2.1
theorem Inv.s6 (h : Inv sn T G) {i : Nat} (hi : i < 8) : nB (shF G i 6) 41 := (h.sh hi).2.2.2.2.2.1
theorem Inv.s7 (h : Inv sn T G) {i : Nat} (hi : i < 8) : nB (shF G i 7) 10 := (h.sh hi).2.2.2.2.2.2.1
theorem Inv.s11 (h : Inv sn T G) {i : Nat} (hi : i < 8) : nB (shF G i 11) 8 := (h.sh hi).2.2.2.2.2.2.2
theorem Inv.fl (h : Inv sn T G) {i : Nat} (hi : i < 8) : 0 < shF G i 4 ↔ ¬ shF G i 4 = 0 := (h.s4 hi).pos (by decide)
theorem Inv.kn (h : Inv sn T G) {i : Nat} (hi : i < sn) : k_known G (nI i) = some i := by
  have hn := h.n
  have e : k_val G (nI i) = true := decide_eq_true ⟨nI_pos' (by omega), by rw [h.k4]; exact (nI_ltI (by omega) (by omega)).mpr hi, (nI_ltI (b := 8) (by omega) (by decide)).mpr (by omega)⟩
  rw [k_known, if_pos e, nI_clamp (by omega)]
theorem Inv.lt (h : Inv sn T G) {i : Nat} (hi : i < 8) (hf : ¬ shF G i 4 = 0) : i < sn := Nat.lt_of_not_le (fun z => hf (h.ub z hi).1)
theorem Inv.on_s (h : Inv sn T G) {j : Nat} (hj : j < 8) (hf : ¬ shF G j 4 = 0) : k_on G (shF G j 2) = some j := by
  rcases k_on_cases G (shF G j 2) with e | ⟨a, ha, hh, e⟩
  · have := ff_no 8 0 e j (Nat.zero_le _) (by omega)
    exact absurd (⟨(h.fl hj).mpr hf, rfl⟩ : 0 < shF G j 4 ∧ shF G j 2 = shF G j 2) (of_decide_eq_false this)
  · have q := of_decide_eq_true hh
    by_cases c : a = j
    · rw [e, c]
    · exact absurd q.2 (h.px ha hj c ((h.fl ha).mp q.1) hf)
theorem Inv.noisl (h : Inv sn T G) {j : Nat} (hj : j < 8) (hf : ¬ shF G j 4 = 0) : ¬ k_isl G (shF G j 2) = true := fun z => by
  obtain ⟨e, he, ee⟩ := h.s2 hj
  have z := (of_decide_eq_true z).2
  rw [ee, nI_clamp (by omega), h.pxi hj he hf ee] at z
  exact absurd z (by decide)
def flb (G : Gm) (c : Int32) (j : Nat) : Bool := decide (0 < shF G j 4 ∧ shF G j 1 = c)
def fla (G : Gm) (j : Nat) : Bool := decide (¬ shF G j 4 = 0)
theorem fleet_mb (G : Gm) (c : Int32) : k_fleet G c = nI (mb (flb G c) 8) := by
  unfold k_fleet
  refine kf_mb 8 (Nat.le_refl _) (fun a j hj => ?_)
  unfold flb
  by_cases e : 0 < shF G j 4 ∧ shF G j 1 = c
  · rw [if_pos e, if_pos (decide_eq_true e)]; rfl
  · rw [if_neg e, if_neg (fun z => e (of_decide_eq_true z))]
theorem Inv.c01 (h : Inv sn T G) {i : Nat} (hi : i < 8) : shF G i 1 = 0 ∨ shF G i 1 = 1 := by
  obtain ⟨c, hc, e⟩ := h.s1 hi
  rcases (by omega : c = 0 ∨ c = 1) with rfl | rfl
  · exact Or.inl e
  · exact Or.inr e
theorem Inv.fleets (h : Inv sn T G) : k_fleet G 0 ||| k_fleet G 1 = nI (mb (fla G) 8) := by
  rw [fleet_mb, fleet_mb, nI_or, mb_or _ _ (fla G) 8 (fun j hj => ?_)]
  unfold flb fla
  rw [← Bool.decide_or, decide_eq_decide, ← h.fl hj]
  rcases h.c01 hj with e | e
  · rw [e]
    exact ⟨fun z => z.elim (fun q => q.1) (fun q => q.1), fun z => Or.inl ⟨z, rfl⟩⟩
  · rw [e]
    exact ⟨fun z => z.elim (fun q => q.1) (fun q => q.1), fun z => Or.inr ⟨z, rfl⟩⟩
theorem fleets_0 (G : Gm) : k_fleet G 0 &&& k_fleet G 1 = 0 := by
  rw [fleet_mb, fleet_mb, nI_and, mb_and0 8 (fun j _ h1 h2 => ?_)]
  · rfl
  · have h1 := (of_decide_eq_true h1).2
    have h2 := (of_decide_eq_true h2).2
    rw [h1] at h2
    exact absurd h2 (by decide)
theorem Inv.v4 (h : Inv sn T G) {i : Nat} (hi : i < 8) : shF G i 4 = nI (hv G i 4) ∧ hv G i 4 < 21 := (h.s4 hi).v (by decide)
theorem Inv.v5 (h : Inv sn T G) {i : Nat} (hi : i < 8) : shF G i 5 = nI (hv G i 5) ∧ hv G i 5 < 9 := (h.s5 hi).v (by decide)
theorem Inv.v6 (h : Inv sn T G) {i : Nat} (hi : i < 8) : shF G i 6 = nI (hv G i 6) ∧ hv G i 6 < 41 := (h.s6 hi).v (by decide)
theorem Inv.v7 (h : Inv sn T G) {i : Nat} (hi : i < 8) : shF G i 7 = nI (hv G i 7) ∧ hv G i 7 < 10 := (h.s7 hi).v (by decide)
def hcc (G : Gm) (c : Int32) (j : Nat) : Nat := if 0 < shF G j 4 ∧ shF G j 1 = c then hv G j 4 else 0
def ec (G : Gm) (c : Int32) (j : Nat) : Nat := if 0 < shF G j 4 ∧ shF G j 1 = c then 6 * hv G j 4 + 4 * hv G j 6 + hv G j 7 * hv G j 5 else 0
def eg (G : Gm) (j : Nat) : Nat := if shF G j 4 = 0 then 0 else 6 * hv G j 4 + 4 * hv G j 6 + hv G j 7 * hv G j 5
def hg (G : Gm) (j : Nat) : Nat := hv G j 4
theorem Inv.hulls (h : Inv sn T G) (c : Int32) : k_hulls G c = nI (sm (hcc G c) 8) := by
  unfold k_hulls
  refine kf_sm 8 (fun a j hj => ?_)
  unfold hcc
  by_cases e : 0 < shF G j 4 ∧ shF G j 1 = c
  · rw [if_pos e, if_pos e, ← (h.v4 hj).1]
  · rw [if_neg e, if_neg e, nI_0, Int32.add_zero]
theorem Inv.eights (h : Inv sn T G) (c : Int32) : k_strength G c = nI (sm (ec G c) 8 / 8) := by
  have e8 : kf (fun a j => if 0 < shF G j 4 ∧ shF G j 1 = c then a + (6 * shF G j 4 + 4 * shF G j 6 + shF G j 7 * shF G j 5) else a) 0 0 8 = nI (sm (ec G c) 8) := by
    refine kf_sm 8 (fun a j hj => ?_)
    unfold ec
    by_cases e : 0 < shF G j 4 ∧ shF G j 1 = c
    · rw [if_pos e, if_pos e, (h.v4 hj).1, (h.v5 hj).1, (h.v6 hj).1, (h.v7 hj).1, show (6 : Int32) = nI 6 from rfl, show (4 : Int32) = nI 4 from rfl, pk_mul, pk_mul, pk_mul, nI_add, nI_add]
    · rw [if_neg e, if_neg e, nI_0, Int32.add_zero]
  unfold k_strength
  rw [e8, show (8 : Int32) = nI 8 from rfl, pk_div ?_ (by decide) (by decide)]
  have hb : sm (ec G c) 8 ≤ 8 * 400 := sm_le 8 (fun j hj => by
    have h4 := (h.v4 hj).2; have h5 := (h.v5 hj).2; have h6 := (h.v6 hj).2; have h7 := (h.v7 hj).2
    have hm : hv G j 7 * hv G j 5 ≤ 9 * 8 := Nat.mul_le_mul (by omega) (by omega)
    unfold ec
    split <;> omega)
  omega
theorem Inv.ecs (h : Inv sn T G) : sm (ec G 0) 8 + sm (ec G 1) 8 = sm (eg G) 8 := by
  refine sm_add 8 (fun j hj => ?_)
  unfold ec eg
  have hfl := h.fl hj
  by_cases e : shF G j 4 = 0
  · rw [if_neg (fun z => hfl.mp z.1 e), if_neg (fun z => hfl.mp z.1 e), if_pos e]
  · rcases h.c01 hj with q | q
    · rw [if_pos ⟨hfl.mpr e, q⟩, if_neg (fun z => absurd (q.symm.trans z.2) (by decide)), if_neg e]; rfl
    · rw [if_neg (fun z => absurd (q.symm.trans z.2) (by decide)), if_pos ⟨hfl.mpr e, q⟩, if_neg e]; omega
theorem Inv.hcs (h : Inv sn T G) : sm (hcc G 0) 8 + sm (hcc G 1) 8 = sm (hg G) 8 := by
  refine sm_add 8 (fun j hj => ?_)
  unfold hcc hg
  have hfl := h.fl hj
  by_cases e : shF G j 4 = 0
  · rw [if_neg (fun z => hfl.mp z.1 e), if_neg (fun z => hfl.mp z.1 e)]
    exact (((h.s4 hj).z (by decide)).mp e).symm
  · rcases h.c01 hj with q | q
    · rw [if_pos ⟨hfl.mpr e, q⟩, if_neg (fun z => absurd (q.symm.trans z.2) (by decide))]; rfl
    · rw [if_neg (fun z => absurd (q.symm.trans z.2) (by decide)), if_pos ⟨hfl.mpr e, q⟩]; omega
theorem Inv.hgs (h : Inv sn T G) : sm (hg G) 8 = sm (hg G) sn := sm_cut sn 8 h.n (fun j h1 h2 => ((h.s4 h2).z (by decide)).mp (h.ub h1 h2).1)
theorem Inv.hgle (h : Inv sn T G) (n : Nat) (hn : n ≤ 8) : sm (hg G) n ≤ n * 21 := sm_le n (fun j hj => by
  have := (h.v4 (show j < 8 by omega)).2
  show hv G j 4 ≤ 21
  omega)
theorem Inv.strge (h : Inv sn T G) : sm (hcc G 0) 8 / 2 ≤ sm (ec G 0) 8 / 8 := by
  have : 6 * sm (hcc G 0) 8 ≤ sm (ec G 0) 8 := sm_mul 6 8 (fun j hj => by
    unfold hcc ec
    split <;> omega)
  omega
theorem Inv.hcle (h : Inv sn T G) (c : Int32) : sm (hcc G c) 8 ≤ 8 * 21 := sm_le 8 (fun j hj => by
  have := (h.v4 hj).2
  unfold hcc
  split <;> omega)
theorem Inv.ecle (h : Inv sn T G) (c : Int32) : sm (ec G c) 8 ≤ 8 * 400 := sm_le 8 (fun j hj => by
  have h4 := (h.v4 hj).2; have h5 := (h.v5 hj).2; have h6 := (h.v6 hj).2; have h7 := (h.v7 hj).2
  have hm : hv G j 7 * hv G j 5 ≤ 9 * 8 := Nat.mul_le_mul (by omega) (by omega)
  unfold ec
  split <;> omega)
end IV
/-! lines of shots -/
def fs (G : Gm) (d : Int32) : Nat → Int32 → Option Nat
  | 0, _ => none
  | n + 1, x => if k_next x d = -9 ∨ k_isl G (k_next x d) = true then none else match k_on G (k_next x d) with
    | some j => some j
    | none => fs G d n (k_next x d)
theorem fs_s (G : Gm) (d : Int32) (n : Nat) (x : Int32) : fs G d (n + 1) x = if k_next x d = -9 ∨ k_isl G (k_next x d) = true then none else match k_on G (k_next x d) with
    | some j => some j
    | none => fs G d n (k_next x d) := rfl
theorem al_s (G : Gm) (d : Int32) (v n : Nat) (q x : Int32) : k_al G d v (n + 1) q x = if k_next x d = -9 ∨ k_isl G (k_next x d) = true then 0 else match k_on G (k_next x d) with
    | some j => if shF G j 0 = shF G v 0 then q else 0
    | none => k_al G d v n (q + Int32.ofInt 1) (k_next x d) := rfl
theorem al_fs {G : Gm} {d : Int32} {v : Nat} (hv : v < 8) : ∀ (n q : Nat) (x : Int32), k_al G d v n (nI q) x = 0 ∨ (fs G d n x = some v ∧ ∃ r, q ≤ r ∧ r < q + n ∧ k_al G d v n (nI q) x = nI r)
  | 0, q, x => Or.inl rfl
  | n + 1, q, x => by
    rw [al_s, fs_s]
    by_cases c : k_next x d = -9 ∨ k_isl G (k_next x d) = true
    · rw [if_pos c]; exact Or.inl rfl
    · rw [if_neg c, if_neg c]
      cases e : k_on G (k_next x d) with
      | none =>
        dsimp only
        rw [nI_s]
        rcases al_fs hv n (q + 1) (k_next x d) with z | ⟨z1, r, z2, z3, z4⟩
        · exact Or.inl z
        · exact Or.inr ⟨z1, r, by omega, by omega, z4⟩
      | some j =>
        dsimp only
        have hj := (on_h e).1
        by_cases ev : shF G j 0 = shF G v 0
        · have : j = v := (nI_eq (by omega) (by omega)).mp ev
          rw [if_pos ev, this]
          exact Or.inr ⟨rfl, q, Nat.le_refl _, by omega, rfl⟩
        · rw [if_neg ev]; exact Or.inl rfl
theorem fs_h {G : Gm} {d : Int32} {v : Nat} : ∀ (n : Nat) (x : Int32), fs G d n x = some v → v < 8 ∧ 0 < shF G v 4
  | 0, x, h => by cases h
  | n + 1, x, h => by
    rw [fs_s] at h
    by_cases c : k_next x d = -9 ∨ k_isl G (k_next x d) = true
    · rw [if_pos c] at h; cases h
    · rw [if_neg c] at h
      cases e : k_on G (k_next x d) with
      | none => rw [e] at h; exact fs_h n _ h
      | some j => rw [e] at h; cases h; exact ⟨(on_h e).1, (on_h e).2.1⟩
theorem al_1 {G : Gm} {d : Int32} {v : Nat} (hv : v < 8) (x : Int32) : k_along G x d v = 0 ∨ (fs G d 3 x = some v ∧ ∃ r, 1 ≤ r ∧ r ≤ 3 ∧ k_along G x d v = nI r) := by
  rcases al_fs (G := G) (d := d) hv 3 1 x with z | ⟨z1, r, z2, z3, z4⟩
  · exact Or.inl z
  · exact Or.inr ⟨z1, r, z2, by omega, z4⟩
def sdr (G : Gm) (i : Nat) (s : Int32) : Int32 := shF G i 3 + (if s = 0 then 4 else 1)
def ln1 (G : Gm) (i : Nat) (s : Int32) : Option Nat := fs G (sdr G i s - sdr G i s / 6 * 6) 3 (shF G i 2)
def ln2 (G : Gm) (i : Nat) (s : Int32) : Option Nat := fs G (sdr G i s + 1 - (sdr G i s + 1) / 6 * 6) 3 (shF G i 2)
theorem shot_fs {G : Gm} {i : Nat} {s : Int32} {v : Nat} (hv : v < 8) : k_shot G i s v = 0 ∨ (0 < shF G i 4 ∧ ¬ shF G i 1 = shF G v 1 ∧ 0 < shF G v 4 ∧ (ln1 G i s = some v ∨ ln2 G i s = some v) ∧ ∃ r, 1 ≤ r ∧ r ≤ 3 ∧ k_shot G i s v = nI r) := by
  by_cases c : ¬ 0 < shF G i 4 ∨ shF G i 1 = shF G v 1
  · exact Or.inl (if_pos c)
  · have c1 : 0 < shF G i 4 := Classical.not_not.mp (fun z => c (Or.inl z))
    have c2 : ¬ shF G i 1 = shF G v 1 := fun z => c (Or.inr z)
    have e : k_shot G i s v = if k_along G (shF G i 2) (sdr G i s - sdr G i s / 6 * 6) v = 0 then k_along G (shF G i 2) (sdr G i s + 1 - (sdr G i s + 1) / 6 * 6) v else k_along G (shF G i 2) (sdr G i s - sdr G i s / 6 * 6) v := if_neg c
    rw [e]
    rcases al_1 (G := G) (d := sdr G i s - sdr G i s / 6 * 6) hv (shF G i 2) with z | ⟨z1, r, z2, z3, z4⟩
    · rw [if_pos z]
      rcases al_1 (G := G) (d := sdr G i s + 1 - (sdr G i s + 1) / 6 * 6) hv (shF G i 2) with y | ⟨y1, r, y2, y3, y4⟩
      · exact Or.inl y
      · exact Or.inr ⟨c1, c2, (fs_h _ _ y1).2, Or.inr y1, r, y2, y3, y4⟩
    · rw [if_neg (fun q => by rw [z4] at q; exact absurd ((nI_eq (b := 0) (by omega) (by decide)).mp q) (by omega))]
      exact Or.inr ⟨c1, c2, (fs_h _ _ z1).2, Or.inl z1, r, z2, z3, z4⟩
def tgb (G : Gm) (i : Nat) (s : Int32) (j : Nat) : Bool := !decide (k_shot G i s j = 0)
def thb (G : Gm) (v j : Nat) : Bool := !decide (k_shot G j 0 v = 0 ∧ k_shot G j 1 v = 0)
theorem targets_mb (G : Gm) (i : Nat) (s : Int32) : k_targets G i s = nI (mb (tgb G i s) 8) := by
  unfold k_targets
  refine kf_mb 8 (Nat.le_refl _) (fun a j hj => ?_)
  unfold tgb
  by_cases e : k_shot G i s j = 0
  · rw [if_pos e, decide_eq_true e]; rfl
  · rw [if_neg e, decide_eq_false e]; rfl
theorem threats_mb (G : Gm) (v : Nat) : k_threats G v = nI (mb (thb G v) 8) := by
  unfold k_threats
  refine kf_mb 8 (Nat.le_refl _) (fun a j hj => ?_)
  unfold thb
  by_cases e : k_shot G j 0 v = 0 ∧ k_shot G j 1 v = 0
  · rw [if_pos e, decide_eq_true e]; rfl
  · rw [if_neg e, decide_eq_false e]; rfl
theorem tgb_t {G : Gm} {i : Nat} {s : Int32} {j : Nat} (h : tgb G i s j = true) : ¬ k_shot G i s j = 0 := by
  unfold tgb at h
  intro z
  rw [decide_eq_true z] at h
  cases h
theorem tgb_f {G : Gm} {i : Nat} {s : Int32} {j : Nat} (h : ¬ tgb G i s j = true) : k_shot G i s j = 0 := by
  unfold tgb at h
  exact Classical.not_not.mp (fun z => h (by rw [decide_eq_false z]; rfl))
theorem mb8 {P : Nat → Bool} {j : Nat} (h : (mb P 8).testBit j = true) : j < 8 ∧ P j = true := by
  rw [mb_bit, Bool.and_eq_true, decide_eq_true_eq] at h
  exact h
theorem tg_two (G : Gm) (i : Nat) (s : Int32) : pcn (mb (tgb G i s) 8) 8 ≤ 2 := by
  refine Nat.le_trans (pcn_two (a := (ln1 G i s).getD 0) (b := (ln2 G i s).getD 0) (fun j hj => ?_) 8) (by split <;> split <;> omega)
  obtain ⟨h8, hp⟩ := mb8 hj
  rcases shot_fs (G := G) (i := i) (s := s) h8 with z | ⟨_, _, _, z, _⟩
  · exact absurd z (tgb_t hp)
  · exact z.elim (fun q => Or.inl (by rw [q]; rfl)) (fun q => Or.inr (by rw [q]; rfl))
section IV2
variable {sn T : Nat} {G : Gm}
theorem Inv.tg_fl (h : Inv sn T G) (i : Nat) (s : Int32) : nI (mb (tgb G i s) 8) &&& (nI (mb (fla G) 8) ^^^ (-1)) = 0 := mask_sub (fun j hj => by
  obtain ⟨h8, hp⟩ := mb8 hj
  rw [mb_bit, decide_eq_true h8, Bool.true_and]
  rcases shot_fs (G := G) (i := i) (s := s) h8 with z | ⟨_, _, z, _⟩
  · exact absurd z (tgb_t hp)
  · exact decide_eq_true ((h.fl h8).mp z))
theorem shot_sunk {i : Nat} (hf : shF G i 4 = 0) (s : Int32) (v : Nat) : k_shot G i s v = 0 := if_pos (Or.inl (by rw [hf]; decide))
theorem shot_at {v : Nat} (h8 : v < 8) (hf : shF G v 4 = 0) (i : Nat) (s : Int32) : k_shot G i s v = 0 := by
  rcases shot_fs (G := G) (i := i) (s := s) h8 with z | ⟨_, _, z, _⟩
  · exact z
  · rw [hf] at z; exact absurd z (by decide)
theorem tg_sunk {i : Nat} (hf : shF G i 4 = 0) (s : Int32) : k_targets G i s = 0 := by
  rw [targets_mb, mb_nil 8 (fun j _ => by unfold tgb; rw [shot_sunk hf]; rfl)]; rfl
theorem th_sunk {v : Nat} (h8 : v < 8) (hf : shF G v 4 = 0) : k_threats G v = 0 := by
  rw [threats_mb, mb_nil 8 (fun j _ => by unfold thb; rw [shot_at h8 hf, shot_at h8 hf]; rfl)]; rfl
theorem tgb_self (i : Nat) (s : Int32) : tgb G i s i = false := by
  unfold tgb
  rw [show k_shot G i s i = 0 from if_pos (Or.inr rfl)]; rfl
theorem tgb_th {i j : Nat} {s : Int32} (hs : s = 0 ∨ s = 1) (h : tgb G i s j = true) : thb G j i = true := by
  unfold thb
  rw [decide_eq_false (fun z => ?_)]; · rfl
  rcases hs with rfl | rfl
  · exact tgb_t h z.1
  · exact tgb_t h z.2
theorem kmin8 {b : Nat} (hb : b < 2 ^ 31) : ∃ q, q ≤ 8 ∧ q ≤ b ∧ kmin (nI b) 8 = nI q := by
  rw [kmin_lt, show (8 : Int32) = nI 8 from rfl]
  by_cases c : nI b < nI 8
  · rw [if_pos c]; exact ⟨b, by have := (nI_ltI hb (by decide)).mp c; omega, Nat.le_refl _, rfl⟩
  · rw [if_neg c]
    have : 8 ≤ b := Nat.le_of_not_lt (fun z => c ((nI_ltI hb (by decide)).mpr z))
    exact ⟨8, Nat.le_refl _, this, rfl⟩
theorem hits_nI {F : Nat → Int32} (h7 : nB (F 7) 10) (h6 : nB (F 6) 41) {r : Nat} (h1 : 1 ≤ r) (h3 : r ≤ 3) : ∃ q, q ≤ 27 ∧ k_hits F (nI r) = nI q := by
  obtain ⟨a, ha, ea⟩ := h7
  obtain ⟨b, hb, eb⟩ := h6
  obtain ⟨m, hm, _, em⟩ := kmin8 (b := b) (by omega)
  unfold k_hits
  rw [ea, eb, em, show (4 : Int32) = nI 4 from rfl, pk_sub (by omega), pk_mul, pk_mul, show (8 : Int32) = nI 8 from rfl]
  have hx : a * (4 - r) * m ≤ 216 := by
    calc a * (4 - r) * m ≤ 9 * 3 * 8 := Nat.mul_le_mul (Nat.mul_le_mul (by omega) (by omega)) hm
      _ = 216 := rfl
  rw [pk_div (by omega) (by decide) (by decide)]
  exact ⟨_, by omega, rfl⟩
end IV2
