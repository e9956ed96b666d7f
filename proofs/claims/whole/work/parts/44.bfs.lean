/-! THE TIE: ways: what the class looks at, place by place, and the paths in the order of their numbers -/
theorem bp_inj (a : Nat) : ∀ b : Nat, bp a = bp b → a = b := by
  induction a using Nat.strongRecOn with
  | _ a ih =>
    intro b e
    by_cases ha : a = 0
    · subst ha
      rw [bp_0] at e
      exact Classical.byContradiction (fun z => bp_pos (k := b) (fun y => z y.symm) e.symm)
    · by_cases hb : b = 0
      · subst hb
        rw [bp_0] at e
        exact absurd e (bp_pos ha)
      · have h1 := bp_d ha
        have h2 := bp_d hb
        rw [e] at h1
        have h3 := ih ((a - 1) / 3) (by omega) ((b - 1) / 3) (h1.1.symm.trans h2.1)
        have h4 := h1.2.symm.trans h2.2
        omega
theorem ln_mono {a b : Nat} (h : a ≤ b) : ln a ≤ ln b := (ln_le (ln b) a).mpr (Nat.le_trans h ((ln_le (ln b) b).mp (Nat.le_refl _)))
def stp (G : Gm) (u pl g : Nat) : Option Nat := if g = 1 then (if 0 ≤ k_ahead G u (nI (pl / 6)) (nI (pl % 6)) ∧ k_ahead G u (nI (pl / 6)) (nI (pl % 6)) < 81 then some ((k_ahead G u (nI (pl / 6)) (nI (pl % 6))).toNatClampNeg * 6 + pl % 6) else none) else if g = 2 then some (pl / 6 * 6 + (pl % 6 + 1) % 6) else some (pl / 6 * 6 + (pl % 6 + 5) % 6)
theorem stp_lt {G : Gm} {u pl g q : Nat} (hp : pl < 486) (h : stp G u pl g = some q) : q < 486 := by
  unfold stp at h
  by_cases h1 : g = 1
  · rw [if_pos h1] at h
    by_cases h2 : 0 ≤ k_ahead G u (nI (pl / 6)) (nI (pl % 6)) ∧ k_ahead G u (nI (pl / 6)) (nI (pl % 6)) < 81
    · rw [if_pos h2] at h
      obtain ⟨e, he, ee⟩ := i_nI (n := 81) h2.1 h2.2 (by decide)
      rw [ee, nI_clamp (by omega)] at h
      cases h
      omega
    · rw [if_neg h2] at h; cases h
  · rw [if_neg h1] at h
    by_cases h2 : g = 2
    · rw [if_pos h2] at h; cases h; omega
    · rw [if_neg h2] at h; cases h; omega
/-- where a path ends -/
def pe (G : Gm) (u st k : Nat) : Option Nat := if h : k = 0 then some st else (pe G u st ((k - 1) / 3)).bind (fun pl => stp G u pl ((k - 1) % 3 + 1))
termination_by k
decreasing_by omega
theorem pe_0 (G : Gm) (u st : Nat) : pe G u st 0 = some st := by rw [pe]; rfl
theorem pe_s {G : Gm} {u st k : Nat} (h : k ≠ 0) : pe G u st k = (pe G u st ((k - 1) / 3)).bind (fun pl => stp G u pl ((k - 1) % 3 + 1)) := by rw [pe, dif_neg h]
theorem pe_c {G : Gm} {u st k pl : Nat} (h : pe G u st k = some pl) {g : Nat} (h1 : 1 ≤ g) (h3 : g ≤ 3) : pe G u st (3 * k + g) = stp G u pl g := by
  rw [pe_s (by omega), show (3 * k + g - 1) / 3 = k by omega, h, show (3 * k + g - 1) % 3 + 1 = g by omega]
  rfl
theorem bp_c {k g : Nat} (h1 : 1 ≤ g) (h3 : g ≤ 3) : bp (3 * k + g) = bp k * 10 + g := by
  rw [bp_s (show 3 * k + g ≠ 0 by omega), show (3 * k + g - 1) / 3 = k by omega, show (3 * k + g - 1) % 3 + 1 = g by omega]
theorem ln_c {k g : Nat} (h1 : 1 ≤ g) (h3 : g ≤ 3) : ln (3 * k + g) = ln k + 1 := by
  rw [ln_s (show 3 * k + g ≠ 0 by omega), show (3 * k + g - 1) / 3 = k by omega]
theorem pe_lt {G : Gm} {u st : Nat} (hs : st < 486) (k : Nat) : ∀ q, pe G u st k = some q → q < 486 := by
  induction k using Nat.strongRecOn with
  | _ k ih =>
    intro q h
    by_cases h0 : k = 0
    · subst h0; rw [pe_0] at h; cases h; exact hs
    · rw [pe_s h0] at h
      obtain ⟨pl, h1, h2⟩ := Option.bind_eq_some_iff.mp h
      exact stp_lt (ih _ (by omega) pl h1) h2
def nt (B : Bm) (o : Option Nat) (p : Nat) : Bm := match o with
  | none => B
  | some q => if B.2.2.2 < 486 then (if B.1 q = none then (va_up B.1 q (some p), va_up B.2.1 B.2.2.2 q, if B.2.2.1 (q / 6) = none then va_up B.2.2.1 (q / 6) (some q) else B.2.2.1, B.2.2.2 + 1) else B) else B
theorem bnote_nt (B : Bm) (x : Int32) {d : Nat} (hd : d < 6) (p : Nat) : bnote B x d p = nt B (if 0 ≤ x ∧ x < 81 then some (x.toNatClampNeg * 6 + d) else none) p := by
  unfold bnote
  by_cases h : 0 ≤ x ∧ x < 81
  · rw [if_pos h, if_pos h]
    unfold nt bput
    dsimp only
    rw [show (x.toNatClampNeg * 6 + d) / 6 = x.toNatClampNeg by omega]
  · rw [if_neg h, if_neg h]
    rfl
theorem bspread_nt (B : Bm) (G : Gm) (u : Nat) {pl : Nat} (hp : pl < 486) (p : Nat) : bspread B G u pl p = nt (nt (nt B (stp G u pl 1) (p * 10 + 1)) (stp G u pl 2) (p * 10 + 2)) (stp G u pl 3) (p * 10 + 3) := by
  have hx : 0 ≤ nI (pl / 6) ∧ nI (pl / 6) < 81 := ⟨nI_pos' (by omega), (nI_ltI (b := 81) (by omega) (by decide)).mpr (by omega)⟩
  unfold bspread
  rw [bnote_nt _ _ (Nat.mod_lt _ (by decide)), bnote_nt _ _ (Nat.mod_lt _ (by decide)), bnote_nt _ _ (Nat.mod_lt _ (by decide)), if_pos hx, if_pos hx, nI_clamp (show pl / 6 < 2 ^ 31 by omega)]
  rfl
def cn (f : Nat → Option Nat) : Nat → Nat
  | 0 => 0
  | n + 1 => cn f n + if f n = none then 0 else 1
theorem cn_s (f : Nat → Option Nat) (n : Nat) : cn f (n + 1) = cn f n + if f n = none then 0 else 1 := rfl
theorem cn_le (f : Nat → Option Nat) : ∀ n, cn f n ≤ n
  | 0 => Nat.le_refl _
  | n + 1 => by
    have := cn_le f n
    rw [cn_s]
    split <;> omega
theorem cn_lt {f : Nat → Option Nat} {q : Nat} (h : f q = none) : ∀ n, q < n → cn f n < n
  | 0, hq => absurd hq (Nat.not_lt_zero _)
  | n + 1, hq => by
    rw [cn_s]
    by_cases e : q = n
    · subst e
      rw [if_pos h]
      have := cn_le f q
      omega
    · have := cn_lt h n (by omega)
      split <;> omega
theorem cn_up {f : Nat → Option Nat} {q : Nat} (h : f q = none) (p : Nat) : ∀ n, cn (va_up f q (some p)) n = cn f n + if q < n then 1 else 0
  | 0 => rfl
  | n + 1 => by
    rw [cn_s, cn_s, cn_up h p n]
    unfold va_up
    by_cases e : n = q
    · subst e
      rw [if_pos rfl, if_neg (show ¬ some p = none from fun z => by cases z), if_pos h, if_neg (show ¬ n < n from Nat.lt_irrefl _), if_pos (show n < n + 1 from Nat.lt_succ_self _)]
    · rw [if_neg e]
      by_cases e2 : q < n
      · rw [if_pos e2, if_pos (show q < n + 1 by omega)]; omega
      · rw [if_neg e2, if_neg (show ¬ q < n + 1 by omega)]; omega
/-- what stands after some looks: κ tells by which path, as a number of its order, the j-th place was come to -/
def BI (G : Gm) (u st mo : Nat) (κ : Nat → Nat) (bd : Nat) (B : Bm) : Prop :=
  0 < B.2.2.2 ∧ B.2.2.2 = cn B.1 486 ∧ κ 0 = 0 ∧
  (∀ j, j < B.2.2.2 → B.2.1 j < 486 ∧ pe G u st (κ j) = some (B.2.1 j) ∧ B.1 (B.2.1 j) = some (bp (κ j)) ∧ κ j ≤ bd ∧ (κ j = 0 ∨ ln (κ j) ≤ mo)) ∧
  (∀ a b, a < b → b < B.2.2.2 → κ a < κ b) ∧
  (∀ q p, B.1 q = some p → ∃ j, j < B.2.2.2 ∧ B.2.1 j = q) ∧
  (∀ x, B.2.2.1 x = none → ∀ j, j < B.2.2.2 → B.2.1 j / 6 ≠ x) ∧
  (∀ x q, B.2.2.1 x = some q → ∃ j, j < B.2.2.2 ∧ B.2.1 j = q ∧ q / 6 = x ∧ ∀ a, a < j → B.2.1 a / 6 ≠ x)
def BE (B B2 : Bm) (κ κ2 : Nat → Nat) : Prop := B.2.2.2 ≤ B2.2.2.2 ∧ ∀ j, j < B.2.2.2 → B2.2.1 j = B.2.1 j ∧ κ2 j = κ j
theorem BE.tr {A B C : Bm} {a b c : Nat → Nat} (h1 : BE A B a b) (h2 : BE B C b c) : BE A C a c := ⟨Nat.le_trans h1.1 h2.1, fun j hj => by
  have q := h2.2 j (Nat.lt_of_lt_of_le hj h1.1)
  have r := h1.2 j hj
  exact ⟨q.1.trans r.1, q.2.trans r.2⟩⟩
theorem nt_in {B : Bm} {q p : Nat} (h : B.1 q = some p) (p2 : Nat) : nt B (some q) p2 = B := by
  unfold nt
  dsimp only
  split
  · rw [if_neg (by rw [h]; intro z; cases z)]
  · rfl
theorem BI.note {G : Gm} {u st mo bd : Nat} {κ : Nat → Nat} {B : Bm} (h : BI G u st mo κ bd B) {k : Nat} (hk : bd < k) (hl : ln k ≤ mo) {o : Option Nat} (ho : pe G u st k = o) (hq : ∀ q, o = some q → q < 486) : ∃ κ2, BI G u st mo κ2 k (nt B o (bp k)) ∧ BE B (nt B o (bp k)) κ κ2 ∧ ∀ q, o = some q → ∃ j, j < (nt B o (bp k)).2.2.2 ∧ (nt B o (bp k)).2.1 j = q ∧ κ2 j ≤ k := by
  have hw : BI G u st mo κ k B := ⟨h.1, h.2.1, h.2.2.1, fun j hj => by
    obtain ⟨a1, a2, a3, a4, a5⟩ := h.2.2.2.1 j hj
    exact ⟨a1, a2, a3, by omega, a5⟩, h.2.2.2.2⟩
  have he : BE B B κ κ := ⟨Nat.le_refl _, fun _ _ => ⟨rfl, rfl⟩⟩
  cases o with
  | none => exact ⟨κ, hw, he, fun q hq => by cases hq⟩
  | some q =>
    have hq4 := hq q rfl
    by_cases e : B.1 q = none
    · obtain ⟨h1, h2, h3, h4, h5, h6, h7, h8⟩ := h
      have hn : B.2.2.2 < 486 := by rw [h2]; exact cn_lt e 486 hq4
      have hB : nt B (some q) (bp k) = (va_up B.1 q (some (bp k)), va_up B.2.1 B.2.2.2 q, if B.2.2.1 (q / 6) = none then va_up B.2.2.1 (q / 6) (some q) else B.2.2.1, B.2.2.2 + 1) := by
        unfold nt
        dsimp only
        rw [if_pos hn, if_pos e]
      rw [hB]
      have hold : ∀ j, j < B.2.2.2 → ¬ B.2.1 j = q := fun j hj z => by
        have := (h4 j hj).2.2.1
        rw [z, e] at this
        cases this
      have ko : ∀ j, j < B.2.2.2 → va_up κ B.2.2.2 k j = κ j := fun j hj => if_neg (by omega)
      have kn : va_up κ B.2.2.2 k B.2.2.2 = k := if_pos rfl
      have qo : ∀ j, j < B.2.2.2 → va_up B.2.1 B.2.2.2 q j = B.2.1 j := fun j hj => if_neg (by omega)
      have qn : va_up B.2.1 B.2.2.2 q B.2.2.2 = q := if_pos rfl
      refine ⟨va_up κ B.2.2.2 k, ⟨Nat.succ_pos _, ?_, ?_, ?_, ?_, ?_, ?_, ?_⟩, ⟨Nat.le_succ _, fun j hj => ⟨qo j hj, ko j hj⟩⟩, fun q' hq' => ⟨B.2.2.2, Nat.lt_succ_self _, ?_, ?_⟩⟩
      · show B.2.2.2 + 1 = cn (va_up B.1 q (some (bp k))) 486
        rw [cn_up e, if_pos hq4, ← h2]
      · rw [ko 0 h1, h3]
      · intro j hj
        have hj : j < B.2.2.2 + 1 := hj
        by_cases ej : j = B.2.2.2
        · subst ej
          show va_up B.2.1 B.2.2.2 q B.2.2.2 < 486 ∧ pe G u st (va_up κ B.2.2.2 k B.2.2.2) = some (va_up B.2.1 B.2.2.2 q B.2.2.2) ∧ va_up B.1 q (some (bp k)) (va_up B.2.1 B.2.2.2 q B.2.2.2) = some (bp (va_up κ B.2.2.2 k B.2.2.2)) ∧ va_up κ B.2.2.2 k B.2.2.2 ≤ k ∧ (va_up κ B.2.2.2 k B.2.2.2 = 0 ∨ ln (va_up κ B.2.2.2 k B.2.2.2) ≤ mo)
          rw [kn, qn]
          exact ⟨hq4, ho, if_pos rfl, Nat.le_refl _, Or.inr hl⟩
        · have hj2 : j < B.2.2.2 := by omega
          obtain ⟨a1, a2, a3, a4, a5⟩ := h4 j hj2
          show va_up B.2.1 B.2.2.2 q j < 486 ∧ pe G u st (va_up κ B.2.2.2 k j) = some (va_up B.2.1 B.2.2.2 q j) ∧ va_up B.1 q (some (bp k)) (va_up B.2.1 B.2.2.2 q j) = some (bp (va_up κ B.2.2.2 k j)) ∧ va_up κ B.2.2.2 k j ≤ k ∧ (va_up κ B.2.2.2 k j = 0 ∨ ln (va_up κ B.2.2.2 k j) ≤ mo)
          rw [ko j hj2, qo j hj2]
          exact ⟨a1, a2, (if_neg (hold j hj2)).trans a3, by omega, a5⟩
      · intro a b hab hb
        have hb : b < B.2.2.2 + 1 := hb
        by_cases eb : b = B.2.2.2
        · subst eb
          rw [kn, ko a hab]
          have := (h4 a hab).2.2.2.1
          omega
        · rw [ko a (by omega), ko b (by omega)]
          exact h5 a b hab (by omega)
      · intro q' p hp
        have hp : va_up B.1 q (some (bp k)) q' = some p := hp
        by_cases eq : q' = q
        · exact ⟨B.2.2.2, Nat.lt_succ_self _, qn.trans eq.symm⟩
        · obtain ⟨j, hj, ej⟩ := h6 q' p ((if_neg eq).symm.trans hp)
          exact ⟨j, Nat.lt_succ_of_lt hj, (qo j hj).trans ej⟩
      · intro x hx j hj
        have hj : j < B.2.2.2 + 1 := hj
        have hx : (if B.2.2.1 (q / 6) = none then va_up B.2.2.1 (q / 6) (some q) else B.2.2.1) x = none := hx
        show va_up B.2.1 B.2.2.2 q j / 6 ≠ x
        have hxo : B.2.2.1 x = none ∧ ¬ q / 6 = x := by
          by_cases c : B.2.2.1 (q / 6) = none
          · rw [if_pos c] at hx
            by_cases c2 : x = q / 6
            · rw [c2] at hx
              exact absurd ((if_pos rfl).symm.trans hx) (fun z => by cases z)
            · exact ⟨(if_neg c2).symm.trans hx, fun z => c2 z.symm⟩
          · rw [if_neg c] at hx
            exact ⟨hx, fun z => c (by rw [z]; exact hx)⟩
        by_cases ej : j = B.2.2.2
        · rw [ej, qn]; exact hxo.2
        · rw [qo j (by omega)]; exact h7 x hxo.1 j (by omega)
      · intro x q' hx
        have hx : (if B.2.2.1 (q / 6) = none then va_up B.2.2.1 (q / 6) (some q) else B.2.2.1) x = some q' := hx
        show ∃ j, j < B.2.2.2 + 1 ∧ va_up B.2.1 B.2.2.2 q j = q' ∧ q' / 6 = x ∧ ∀ a, a < j → va_up B.2.1 B.2.2.2 q a / 6 ≠ x
        have hold2 : B.2.2.1 x = some q' → ∃ j, j < B.2.2.2 + 1 ∧ va_up B.2.1 B.2.2.2 q j = q' ∧ q' / 6 = x ∧ ∀ a, a < j → va_up B.2.1 B.2.2.2 q a / 6 ≠ x := fun z => by
          obtain ⟨j, hj, a1, a2, a3⟩ := h8 x q' z
          exact ⟨j, by omega, (qo j hj).trans a1, a2, fun a ha => by rw [qo a (by omega)]; exact a3 a ha⟩
        by_cases c : B.2.2.1 (q / 6) = none
        · rw [if_pos c] at hx
          by_cases c2 : x = q / 6
          · rw [c2] at hx
            have eq : q = q' := Option.some.inj ((if_pos rfl).symm.trans hx)
            refine ⟨B.2.2.2, Nat.lt_succ_self _, qn.trans eq, by rw [← eq, c2], fun a ha => ?_⟩
            rw [qo a ha, c2]
            exact h7 _ c a ha
          · exact hold2 ((if_neg c2).symm.trans hx)
        · rw [if_neg c] at hx
          exact hold2 hx
      · show va_up B.2.1 B.2.2.2 q B.2.2.2 = q'
        rw [qn]; exact Option.some.inj hq'
      · rw [kn]; exact Nat.le_refl _
    · obtain ⟨p, hp⟩ := Option.ne_none_iff_exists'.mp e
      rw [nt_in hp]
      obtain ⟨j, hj, ej⟩ := h.2.2.2.2.2.1 q p hp
      refine ⟨κ, hw, he, fun q' hq' => ⟨j, hj, ej.trans (Option.some.inj hq'), ?_⟩⟩
      have := (h.2.2.2.1 j hj).2.2.2.1
      omega
