/-! NUMBERS AND SETS: small numbers, bit masks, sums (kin of the rows of whole) -/
theorem kmin_lt (x y : Int32) : kmin x y = if x < y then x else y := by
  unfold kmin
  by_cases h : y < x
  · rw [if_pos h, if_neg (fun z => Int32.lt_irrefl (Int32.lt_trans h z))]
  · rw [if_neg h]
    by_cases h2 : x < y
    · rw [if_pos h2]
    · rw [if_neg h2]
      exact Int32.le_antisymm (Int32.not_lt.mp h) (Int32.not_lt.mp h2)
theorem kmax0 (x : Int32) : kmax 0 x = if x < 0 then 0 else x := by
  unfold kmax
  by_cases h : x < 0
  · rw [if_pos h, if_neg (fun z => Int32.lt_irrefl (Int32.lt_trans h z))]
  · rw [if_neg h]
    by_cases h2 : 0 < x
    · rw [if_pos h2]
    · rw [if_neg h2]
      exact Int32.le_antisymm (Int32.not_lt.mp h) (Int32.not_lt.mp h2)
/-- a number below n -/
def nB (v : Int32) (n : Nat) : Prop := ∃ k, k < n ∧ v = nI k
theorem nB.mono {v : Int32} {n m : Nat} (h : nB v n) (hm : n ≤ m) : nB v m := h.elim fun k q => ⟨k, by omega, q.2⟩
theorem nB.ge {v : Int32} {n : Nat} (h : nB v n) (hn : n ≤ 2 ^ 31) : 0 ≤ v := by
  obtain ⟨k, hk, rfl⟩ := h
  exact nI_pos' (by omega)
theorem nB.lt {v : Int32} {n : Nat} (h : nB v n) (hn : n < 2 ^ 31) : v < nI n := by
  obtain ⟨k, hk, rfl⟩ := h
  exact (nI_ltI (by omega) hn).mpr hk
theorem nB.n9 {v : Int32} {n : Nat} (h : nB v n) (hn : n ≤ 2 ^ 31) : ¬ v = -9 := fun z => absurd (h.ge hn) (by rw [z]; decide)
theorem nB.n1 {v : Int32} {n : Nat} (h : nB v n) (hn : n ≤ 2 ^ 31) : ¬ v = -1 := fun z => absurd (h.ge hn) (by rw [z]; decide)
theorem nB.pos {v : Int32} {n : Nat} (h : nB v n) (hn : n ≤ 2 ^ 31) : 0 < v ↔ ¬ v = 0 := by
  obtain ⟨k, hk, rfl⟩ := h
  rw [show (0 : Int32) = nI 0 from rfl, nI_ltI (by decide) (by omega), nI_eq (by omega) (by decide)]
  omega
theorem nB_of {v : Int32} {n : Nat} (h0 : 0 ≤ v) (h1 : v < nI n) (hn : n < 2 ^ 31) : nB v n := i_nI h0 h1 hn
theorem nI_or (a b : Nat) : nI a ||| nI b = nI (a ||| b) := Int32.toBitVec_inj.1 (BitVec.ofNat_or (w := 32) (x := a) (y := b)).symm
theorem kf_snoc (f : Int32 → Nat → Int32) : ∀ (n i : Nat) (a : Int32), kf f a i (n + 1) = f (kf f a i n) (i + n)
  | 0, i, a => rfl
  | n + 1, i, a => by
    rw [kf_s, kf_snoc f n (i + 1) (f a i), kf_s, show i + 1 + n = i + (n + 1) by omega]
def mb (P : Nat → Bool) : Nat → Nat
  | 0 => 0
  | n + 1 => mb P n ||| (if P n = true then 2 ^ n else 0)
theorem mb_s (P : Nat → Bool) (n : Nat) : mb P (n + 1) = mb P n ||| (if P n = true then 2 ^ n else 0) := rfl
theorem mb_bit (P : Nat → Bool) : ∀ (n j : Nat), (mb P n).testBit j = (decide (j < n) && P j)
  | 0, j => by simp [mb]
  | n + 1, j => by
    rw [mb_s, Nat.testBit_or, mb_bit P n j]
    by_cases h : P n = true
    · rw [if_pos h, Nat.testBit_two_pow]
      by_cases e : n = j
      · subst e; simp [h]
      · have : decide (j < n + 1) = decide (j < n) := decide_eq_decide.mpr (by omega)
        rw [this]; simp [e]
    · rw [if_neg h]
      by_cases e : n = j
      · subst e; simp [h]
      · have : decide (j < n + 1) = decide (j < n) := decide_eq_decide.mpr (by omega)
        rw [this]; simp
theorem mb_lt (P : Nat → Bool) : ∀ n, mb P n < 2 ^ n
  | 0 => Nat.zero_lt_one
  | n + 1 => by
    rw [mb_s]
    refine Nat.or_lt_two_pow (Nat.lt_of_lt_of_le (mb_lt P n) (Nat.pow_le_pow_right (by decide) (Nat.le_succ n))) ?_
    split
    · exact Nat.pow_lt_pow_right (by decide) (Nat.lt_succ_self n)
    · exact Nat.pow_pos (by decide)
theorem bit_8 : ∀ j : Fin 8, (1 : Int32) <<< (nI j.1 &&& 31) = nI (2 ^ j.1) := by decide +kernel
theorem kf_mb {f : Int32 → Nat → Int32} {P : Nat → Bool} : ∀ n, n ≤ 8 → (∀ a j, j < n → f a j = if P j = true then a ||| 1 <<< (nI j &&& 31) else a) → kf f 0 0 n = nI (mb P n)
  | 0, _, _ => rfl
  | n + 1, hn, h => by
    rw [kf_snoc, kf_mb n (by omega) (fun a j hj => h a j (by omega)), Nat.zero_add, h _ n (Nat.lt_succ_self n), mb_s]
    by_cases e : P n = true
    · rw [if_pos e, if_pos e, bit_8 ⟨n, by omega⟩, nI_or]
    · rw [if_neg e, if_neg e, Nat.or_zero]
theorem lay_fin : ∀ hd : Fin 64, ∀ x : Fin 6, hd.1.testBit x.1 = true → nI hd.1 - 1 <<< (nI x.1 &&& 31) = nI (hd.1 - 2 ^ x.1) ∧ nI hd.1 &&& (1 <<< (nI x.1 &&& 31) ^^^ (-1)) = nI (hd.1 - 2 ^ x.1) := by decide +kernel
theorem hold_fin : ∀ hd : Fin 64, ∀ x : Fin 6, (k_hold (nI hd.1) (nI x.1) = true ↔ hd.1.testBit x.1 = true) := by decide +kernel
theorem k_lay_ev {F : Nat → Int32} {hd x : Nat} (h64 : hd < 64) (hx : x < 6) (hb : hd.testBit x = true) (f0 : F 0 = nI hd) (f1 : F 1 = nI x) : k_lay F 0 = nI (if hd - 2 ^ x = 0 then 63 else hd - 2 ^ x) ∧ k_lay F 1 = -9 ∧ k_lay F 2 = F 2 := by
  have hold : k_hold (F 0) (F 1) = true := by rw [f0, f1]; exact (hold_fin ⟨hd, h64⟩ ⟨x, hx⟩).mpr hb
  unfold k_lay
  rw [if_pos hold, f0, f1, (lay_fin ⟨hd, h64⟩ ⟨x, hx⟩ hb).1]
  dsimp only
  rw [show upd (upd F 0 (nI (hd - 2 ^ x))) 1 (-9) 0 = nI (hd - 2 ^ x) from rfl]
  by_cases c : hd - 2 ^ x = 0
  · rw [c, if_pos (show nI 0 = 0 from rfl), if_pos (show (0 : Nat) = 0 from rfl)]
    exact ⟨rfl, rfl, rfl⟩
  · rw [if_neg (show ¬ nI (hd - 2 ^ x) = 0 from fun z => c ((nI_eq (b := 0) (Nat.lt_of_le_of_lt (Nat.sub_le _ _) (Nat.lt_trans h64 (by decide))) (by decide)).mp z)), if_neg c]
    exact ⟨rfl, rfl, rfl⟩
theorem nB.v {v : Int32} {n : Nat} (h : nB v n) (hn : n ≤ 2 ^ 31) : v = nI v.toNatClampNeg ∧ v.toNatClampNeg < n := by
  obtain ⟨k, hk, rfl⟩ := h
  rw [nI_clamp (by omega)]
  exact ⟨rfl, hk⟩
theorem nB.z {v : Int32} {n : Nat} (h : nB v n) (hn : n ≤ 2 ^ 31) : v = 0 ↔ v.toNatClampNeg = 0 := by
  obtain ⟨k, hk, rfl⟩ := h
  rw [nI_clamp (by omega)]
  exact nI_eq (b := 0) (by omega) (by decide)
theorem nI_and (a b : Nat) : nI a &&& nI b = nI (a &&& b) := Int32.toBitVec_inj.1 (BitVec.ofNat_and (w := 32) (x := a) (y := b)).symm
theorem shr_fin : ∀ m : Fin 256, ∀ j : Fin 8, nI m.1 >>> (nI j.1 &&& 31) &&& 1 = if m.1.testBit j.1 = true then 1 else 0 := by decide +kernel
theorem shr_mb (P : Nat → Bool) {j : Nat} (hj : j < 8) : nI (mb P 8) >>> (nI j &&& 31) &&& 1 = if P j = true then 1 else 0 := by
  rw [shr_fin ⟨_, mb_lt P 8⟩ ⟨j, hj⟩]
  show (if (mb P 8).testBit j = true then (1 : Int32) else 0) = _
  rw [mb_bit, decide_eq_true hj, Bool.true_and]
theorem mask_sub {m f : Nat} (h : ∀ j, m.testBit j = true → f.testBit j = true) : nI m &&& (nI f ^^^ (-1)) = 0 := by
  apply Int32.toBitVec_inj.1
  apply BitVec.eq_of_getLsbD_eq
  intro i hi
  rw [Int32.toBitVec_and, Int32.toBitVec_xor, BitVec.getLsbD_and, BitVec.getLsbD_xor, show (nI m).toBitVec = BitVec.ofNat 32 m from rfl, show (nI f).toBitVec = BitVec.ofNat 32 f from rfl, show ((-1 : Int32)).toBitVec = BitVec.allOnes 32 from by decide, show (0 : Int32).toBitVec = 0#32 from rfl, BitVec.getLsbD_ofNat, BitVec.getLsbD_ofNat, BitVec.getLsbD_allOnes, BitVec.getLsbD_zero]
  have := h i
  cases hm : m.testBit i <;> cases hf : f.testBit i <;> simp_all
theorem mb_nil {P : Nat → Bool} (n : Nat) (h : ∀ j, j < n → P j = false) : mb P n = 0 := by
  refine Nat.eq_of_testBit_eq (fun j => ?_)
  rw [mb_bit, Nat.zero_testBit]
  by_cases e : j < n
  · rw [h j e, Bool.and_false]
  · rw [decide_eq_false e, Bool.false_and]
theorem mb_and0 {P Q : Nat → Bool} (n : Nat) (h : ∀ j, j < n → P j = true → Q j = true → False) : mb P n &&& mb Q n = 0 := by
  refine Nat.eq_of_testBit_eq (fun j => ?_)
  rw [Nat.testBit_and, mb_bit, mb_bit, Nat.zero_testBit]
  by_cases e : j < n
  · cases hp : P j
    · simp
    · cases hq : Q j
      · simp
      · exact (h j e hp hq).elim
  · rw [decide_eq_false e]; simp
/-- how many bits -/
def pcn (m : Nat) : Nat → Nat
  | 0 => 0
  | n + 1 => pcn m n + m / 2 ^ n % 2
theorem pcn_s (m n : Nat) : pcn m (n + 1) = pcn m n + m / 2 ^ n % 2 := rfl
theorem pcn_two {m a b : Nat} (h : ∀ j, m.testBit j = true → j = a ∨ j = b) : ∀ n, pcn m n ≤ (if a < n then 1 else 0) + (if b < n then 1 else 0)
  | 0 => Nat.zero_le _
  | n + 1 => by
    have ih := pcn_two h n
    rw [pcn_s]
    have hb := h n
    rw [Nat.testBit_eq_decide_div_mod_eq, decide_eq_true_eq] at hb
    have hm : m / 2 ^ n % 2 < 2 := Nat.mod_lt _ (by decide)
    by_cases e : m / 2 ^ n % 2 = 1
    · rcases hb e with q | q
      · subst q
        rw [if_neg (Nat.lt_irrefl n)] at ih
        rw [if_pos (Nat.lt_succ_self n), e]
        split at ih <;> split <;> omega
      · subst q
        rw [if_neg (Nat.lt_irrefl n)] at ih
        rw [if_pos (Nat.lt_succ_self n), e]
        split at ih <;> split <;> omega
    · split at ih <;> split at ih <;> split <;> split <;> omega
/-- sums of small numbers -/
def sm (g : Nat → Nat) : Nat → Nat
  | 0 => 0
  | n + 1 => sm g n + g n
theorem sm_s (g : Nat → Nat) (n : Nat) : sm g (n + 1) = sm g n + g n := rfl
theorem kf_sm {f : Int32 → Nat → Int32} {g : Nat → Nat} : ∀ n, (∀ a j, j < n → f a j = a + nI (g j)) → kf f 0 0 n = nI (sm g n)
  | 0, _ => rfl
  | n + 1, h => by rw [kf_snoc, kf_sm n (fun a j hj => h a j (by omega)), Nat.zero_add, h _ n (Nat.lt_succ_self n), nI_add, sm_s]
theorem sm_le {g : Nat → Nat} {B : Nat} : ∀ n, (∀ j, j < n → g j ≤ B) → sm g n ≤ n * B
  | 0, _ => Nat.zero_le _
  | n + 1, h => by
    have h1 := sm_le n (fun j hj => h j (by omega))
    have h2 := h n (Nat.lt_succ_self n)
    rw [sm_s, Nat.succ_mul]
    omega
theorem sm_add {g1 g2 g : Nat → Nat} : ∀ n, (∀ j, j < n → g1 j + g2 j = g j) → sm g1 n + sm g2 n = sm g n
  | 0, _ => rfl
  | n + 1, h => by
    have h1 := sm_add n (fun j hj => h j (by omega))
    have h2 := h n (Nat.lt_succ_self n)
    rw [sm_s, sm_s, sm_s]
    omega
theorem sm_mono {g1 g2 : Nat → Nat} : ∀ n, (∀ j, j < n → g1 j ≤ g2 j) → sm g1 n ≤ sm g2 n
  | 0, _ => Nat.le_refl _
  | n + 1, h => by
    have h1 := sm_mono n (fun j hj => h j (by omega))
    have h2 := h n (Nat.lt_succ_self n)
    rw [sm_s, sm_s]
    omega
theorem sm_mul {g1 g2 : Nat → Nat} (c : Nat) : ∀ n, (∀ j, j < n → c * g1 j ≤ g2 j) → c * sm g1 n ≤ sm g2 n
  | 0, _ => Nat.le_refl _
  | n + 1, h => by
    have h1 := sm_mul c n (fun j hj => h j (by omega))
    have h2 := h n (Nat.lt_succ_self n)
    rw [sm_s, sm_s, Nat.mul_add]
    omega
theorem sm_cut {g : Nat → Nat} (k : Nat) : ∀ n, k ≤ n → (∀ j, k ≤ j → j < n → g j = 0) → sm g n = sm g k
  | 0, hk, _ => by rw [show k = 0 by omega]
  | n + 1, hk, h => by
    by_cases e : k = n + 1
    · rw [e]
    · rw [sm_s, sm_cut k n (by omega) (fun j h1 h2 => h j h1 (by omega)), h n (by omega) (Nat.lt_succ_self n)]
      rfl
/-- two places change, the rest stays -/
theorem sm_two {g1 g2 : Nat → Nat} {u v : Nat} (huv : u ≠ v) (h : ∀ j, j ≠ u → j ≠ v → g1 j = g2 j) : ∀ n, sm g1 n + (if u < n then g2 u else 0) + (if v < n then g2 v else 0) = sm g2 n + (if u < n then g1 u else 0) + (if v < n then g1 v else 0)
  | 0 => rfl
  | n + 1 => by
    have ih := sm_two huv h n
    rw [sm_s, sm_s]
    by_cases e1 : n = u
    · subst e1
      rw [if_neg (Nat.lt_irrefl n), if_neg (Nat.lt_irrefl n)] at ih
      rw [if_pos (Nat.lt_succ_self n), if_pos (Nat.lt_succ_self n)]
      by_cases e2 : v < n
      · rw [if_pos e2, if_pos e2] at ih
        rw [if_pos (by omega), if_pos (by omega)]; omega
      · rw [if_neg e2, if_neg e2] at ih
        rw [if_neg (by omega), if_neg (by omega)]; omega
    · by_cases e3 : n = v
      · subst e3
        rw [if_neg (Nat.lt_irrefl n), if_neg (Nat.lt_irrefl n)] at ih
        rw [if_pos (Nat.lt_succ_self n), if_pos (Nat.lt_succ_self n)]
        by_cases e2 : u < n
        · rw [if_pos e2, if_pos e2] at ih
          rw [if_pos (by omega), if_pos (by omega)]; omega
        · rw [if_neg e2, if_neg e2] at ih
          rw [if_neg (by omega), if_neg (by omega)]; omega
      · have hn := h n e1 e3
        have a1 : u < n + 1 ↔ u < n := by omega
        have a2 : v < n + 1 ↔ v < n := by omega
        simp only [a1, a2]
        omega
/-! a game's fields behind a write -/
theorem shv (G : Gm) (i : Nat) {j : Nat} (hj : j ≠ 0) (v : Int32) (a k : Nat) : shF (sF G i j v) a k = if a = i ∧ k = j then v else shF G a k := by
  unfold sF
  by_cases ha : a = i
  · subst ha
    rw [shF_sS (show upd (shF G a) j v 0 = nI a from pk_un (Ne.symm hj))]
    by_cases hk : k = j
    · subst hk; rw [pk_us, if_pos ⟨rfl, rfl⟩]
    · rw [pk_un hk, if_neg (fun z => hk z.2)]
  · rw [shF_sS' ha, if_neg (fun z => ha z.1)]
theorem ckv (G : Gm) (c j : Nat) (v : Int32) (a k : Nat) (hk : k < 3) : cF (sK G c j v) a k = if a = c ∧ k = j then v else cF G a k := by
  unfold sK
  by_cases ha : a = c
  · subst ha
    rw [cF_sC hk]
    by_cases e : k = j
    · subst e; rw [pk_us, if_pos ⟨rfl, rfl⟩]
    · rw [pk_un e, if_neg (fun z => e z.2)]
  · rw [cF_sC' hk ha, if_neg (fun z => ha z.1)]
theorem gkv (G : Gm) (c j : Nat) (v : Int32) (k : Nat) (hk : k < 6) : (sK G c j v).1 k = G.1 k := by
  unfold sK sC
  exact if_neg (by omega)
theorem cix_nI {c : Nat} (h : c < 2) : cix (nI c) = c := by
  rcases (by omega : c = 0 ∨ c = 1) with rfl | rfl <;> decide
theorem ff_no {p : Nat → Bool} : ∀ (n i : Nat), ff p i n = none → ∀ j, i ≤ j → j < i + n → p j = false
  | 0, i, _, j, h1, h2 => by omega
  | n + 1, i, h, j, h1, h2 => by
    rw [ff_s] at h
    by_cases e : p i = true
    · rw [if_pos e] at h; cases h
    · rw [if_neg e] at h
      by_cases q : j = i
      · subst q; exact Bool.eq_false_iff.mpr e
      · exact ff_no n (i + 1) h j (by omega) (by omega)
theorem ff_none {p : Nat → Bool} : ∀ (n i : Nat), (∀ j, i ≤ j → j < i + n → p j = false) → ff p i n = none
  | 0, i, _ => rfl
  | n + 1, i, h => by
    rw [ff_s, h i (Nat.le_refl i) (by omega), if_neg Bool.false_ne_true]
    exact ff_none n (i + 1) (fun j h1 h2 => h j (by omega) (by omega))
theorem shv_1 (G : Gm) (i : Nat) (v : Int32) (a k : Nat) : shF (sF G i 1 v) a k = if a = i ∧ k = 1 then v else shF G a k := shv G i (by decide) v a k
theorem shv_2 (G : Gm) (i : Nat) (v : Int32) (a k : Nat) : shF (sF G i 2 v) a k = if a = i ∧ k = 2 then v else shF G a k := shv G i (by decide) v a k
theorem shv_3 (G : Gm) (i : Nat) (v : Int32) (a k : Nat) : shF (sF G i 3 v) a k = if a = i ∧ k = 3 then v else shF G a k := shv G i (by decide) v a k
theorem shv_4 (G : Gm) (i : Nat) (v : Int32) (a k : Nat) : shF (sF G i 4 v) a k = if a = i ∧ k = 4 then v else shF G a k := shv G i (by decide) v a k
theorem shv_5 (G : Gm) (i : Nat) (v : Int32) (a k : Nat) : shF (sF G i 5 v) a k = if a = i ∧ k = 5 then v else shF G a k := shv G i (by decide) v a k
theorem shv_6 (G : Gm) (i : Nat) (v : Int32) (a k : Nat) : shF (sF G i 6 v) a k = if a = i ∧ k = 6 then v else shF G a k := shv G i (by decide) v a k
theorem shv_7 (G : Gm) (i : Nat) (v : Int32) (a k : Nat) : shF (sF G i 7 v) a k = if a = i ∧ k = 7 then v else shF G a k := shv G i (by decide) v a k
theorem shv_8 (G : Gm) (i : Nat) (v : Int32) (a k : Nat) : shF (sF G i 8 v) a k = if a = i ∧ k = 8 then v else shF G a k := shv G i (by decide) v a k
theorem shv_9 (G : Gm) (i : Nat) (v : Int32) (a k : Nat) : shF (sF G i 9 v) a k = if a = i ∧ k = 9 then v else shF G a k := shv G i (by decide) v a k
theorem shv_10 (G : Gm) (i : Nat) (v : Int32) (a k : Nat) : shF (sF G i 10 v) a k = if a = i ∧ k = 10 then v else shF G a k := shv G i (by decide) v a k
theorem shv_11 (G : Gm) (i : Nat) (v : Int32) (a k : Nat) : shF (sF G i 11 v) a k = if a = i ∧ k = 11 then v else shF G a k := shv G i (by decide) v a k
