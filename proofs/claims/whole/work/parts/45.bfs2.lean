/-! THE TIE: ways, on -/
def GG (G : Gm) (u mo i : Nat) (κ : Nat → Nat) (B : Bm) : Prop := ∀ j, j < i → j < B.2.2.2 → ln (κ j) < mo → ∀ g, 1 ≤ g → g ≤ 3 → ∀ q, stp G u (B.2.1 j) g = some q → ∃ a, a < B.2.2.2 ∧ B.2.1 a = q ∧ κ a ≤ 3 * κ j + g
theorem BI.spread {G : Gm} {u st mo bd : Nat} {κ : Nat → Nat} {B : Bm} (h : BI G u st mo κ bd B) {i : Nat} (hi : i < B.2.2.2) (hb : bd ≤ 3 * κ i) (hl : ln (κ i) < mo) : ∃ κ2, BI G u st mo κ2 (3 * κ i + 3) (bspread B G u (B.2.1 i) (bp (κ i))) ∧ BE B (bspread B G u (B.2.1 i) (bp (κ i))) κ κ2 ∧ ∀ g, 1 ≤ g → g ≤ 3 → ∀ q, stp G u (B.2.1 i) g = some q → ∃ a, a < (bspread B G u (B.2.1 i) (bp (κ i))).2.2.2 ∧ (bspread B G u (B.2.1 i) (bp (κ i))).2.1 a = q ∧ κ2 a ≤ 3 * κ i + g := by
  obtain ⟨p1, p2, p3, p4, p5⟩ := h.2.2.2.1 i hi
  have hs : ∀ g q, stp G u (B.2.1 i) g = some q → q < 486 := fun g q z => stp_lt p1 z
  rw [bspread_nt _ _ _ p1, ← bp_c (k := κ i) (g := 1) (by decide) (by decide), ← bp_c (k := κ i) (g := 2) (by decide) (by decide), ← bp_c (k := κ i) (g := 3) (by decide) (by decide)]
  obtain ⟨κ1, b1, e1, f1⟩ := h.note (k := 3 * κ i + 1) (by omega) (by rw [ln_c (by decide) (by decide)]; omega) (pe_c p2 (by decide) (by decide)) (hs 1)
  obtain ⟨κ2, b2, e2, f2⟩ := b1.note (k := 3 * κ i + 2) (by omega) (by rw [ln_c (by decide) (by decide)]; omega) (pe_c p2 (by decide) (by decide)) (hs 2)
  obtain ⟨κ3, b3, e3, f3⟩ := b2.note (k := 3 * κ i + 3) (by omega) (by rw [ln_c (by decide) (by decide)]; omega) (pe_c p2 (by decide) (by decide)) (hs 3)
  refine ⟨κ3, b3, (e1.tr e2).tr e3, fun g h1 h3 q hq => ?_⟩
  rcases (by omega : g = 1 ∨ g = 2 ∨ g = 3) with rfl | rfl | rfl
  · obtain ⟨a, a1, a2, a3⟩ := f1 q hq
    have q2 := e2.2 a a1
    have q3 := e3.2 a (Nat.lt_of_lt_of_le a1 e2.1)
    exact ⟨a, Nat.lt_of_lt_of_le a1 (Nat.le_trans e2.1 e3.1), (q3.1.trans q2.1).trans a2, by rw [q3.2, q2.2]; exact a3⟩
  · obtain ⟨a, a1, a2, a3⟩ := f2 q hq
    have q3 := e3.2 a a1
    exact ⟨a, Nat.lt_of_lt_of_le a1 e3.1, q3.1.trans a2, by rw [q3.2]; exact a3⟩
  · exact f3 q hq
theorem bat_bp {G : Gm} {u st mo bd : Nat} {κ : Nat → Nat} {B : Bm} (h : BI G u st mo κ bd B) {i : Nat} (hi : i < B.2.2.2) : bat B i = bp (κ i) := by
  unfold bat
  rw [(h.2.2.2.1 i hi).2.2.1]
  rfl
theorem BI.run {G : Gm} {u st mo : Nat} (hmo : mo < 100) : ∀ (f i : Nat) (κ : Nat → Nat) (bd : Nat) (B : Bm), i + f = 486 → i ≤ B.2.2.2 → BI G u st mo κ bd B → (i < B.2.2.2 → bd ≤ 3 * κ i) → GG G u mo i κ B → ∃ κ2 bd2, BI G u st mo κ2 bd2 (bexp G u (nI mo) f i B) ∧ GG G u mo (bexp G u (nI mo) f i B).2.2.2 κ2 (bexp G u (nI mo) f i B)
  | 0, i, κ, bd, B, hf, hin, hB, hb, hg => ⟨κ, bd, hB, fun j hj hj2 => hg j (by
      have : B.2.2.2 ≤ 486 := by rw [hB.2.1]; exact cn_le _ _
      have hj2 : j < B.2.2.2 := hj2
      omega) hj2⟩
  | f + 1, i, κ, bd, B, hf, hin, hB, hb, hg => by
    rw [bexp_s]
    by_cases hi : i < B.2.2.2
    · rw [if_pos hi]
      have hk := (hB.2.2.2.1 i hi).2.2.2.2
      have hl : ln (κ i) ≤ mo := by
        rcases hk with z | z
        · rw [z, ln_0]; omega
        · exact z
      unfold bstep
      rw [bat_bp hB hi, nd_bp]
      by_cases c : ln (κ i) < mo
      · rw [if_pos ((nI_ltI (by omega) (by omega)).mpr c)]
        obtain ⟨κ2, b2, e2, f2⟩ := hB.spread hi (hb hi) c
        refine BI.run hmo f (i + 1) κ2 _ _ (by omega) (Nat.le_trans hi e2.1) b2 (fun hi2 => ?_) (fun j hj hj2 hlj g h1 h3 q hq => ?_)
        · have := b2.2.2.2.2.1 i (i + 1) (Nat.lt_succ_self i) hi2
          rw [(e2.2 i hi).2] at this
          omega
        · by_cases ej : j = i
          · subst ej
            rw [(e2.2 j hi).1] at hq
            obtain ⟨a, a1, a2, a3⟩ := f2 g h1 h3 q hq
            exact ⟨a, a1, a2, by rw [(e2.2 j hi).2]; exact a3⟩
          · have hj3 : j < i := by omega
            have hj4 : j < B.2.2.2 := by omega
            rw [(e2.2 j hj4).1] at hq
            rw [(e2.2 j hj4).2] at hlj
            obtain ⟨a, a1, a2, a3⟩ := hg j hj3 hj4 hlj g h1 h3 q hq
            exact ⟨a, Nat.lt_of_lt_of_le a1 e2.1, (e2.2 a a1).1.trans a2, by rw [(e2.2 a a1).2, (e2.2 j hj4).2]; exact a3⟩
      · rw [if_neg (fun z => c ((nI_ltI (by omega) (by omega)).mp z))]
        refine BI.run hmo f (i + 1) κ bd B (by omega) hi hB (fun hi2 => ?_) (fun j hj hj2 hlj => ?_)
        · have := hB.2.2.2.2.1 i (i + 1) (Nat.lt_succ_self i) hi2
          have := hb hi
          omega
        · by_cases ej : j = i
          · subst ej; exact absurd hlj c
          · exact hg j (by omega) hj2 hlj
    · rw [if_neg hi]
      exact ⟨κ, bd, hB, fun j hj hj2 => hg j (by omega) hj2⟩
theorem cn_0 : ∀ n, cn (fun _ => none) n = 0
  | 0 => rfl
  | n + 1 => by rw [cn_s, cn_0 n, if_pos rfl]
theorem bway_fin {G : Gm} {u mo e0 d0 : Nat} (hmo : mo < 100) (he : e0 < 81) (hd : d0 < 6) (h2 : shF G u 2 = nI e0) (Q : Nat → Nat) : ∃ κ bd, BI G u (e0 * 6 + d0) mo κ bd (bway G u d0 (nI mo) Q) ∧ GG G u mo (bway G u d0 (nI mo) Q).2.2.2 κ (bway G u d0 (nI mo) Q) := by
  unfold bway
  have hx : 0 ≤ nI e0 ∧ nI e0 < 81 := ⟨nI_pos' (by omega), (nI_ltI (b := 81) (by omega) (by decide)).mpr he⟩
  have hB : bnote (b0 Q) (shF G u 2) d0 0 = (va_up (fun _ => none) (e0 * 6 + d0) (some 0), va_up Q 0 (e0 * 6 + d0), va_up (fun _ => none) e0 (some (e0 * 6 + d0)), 1) := by
    rw [h2, bnote_nt _ _ hd, if_pos hx, nI_clamp (show e0 < 2 ^ 31 by omega)]
    unfold nt b0
    dsimp only
    rw [if_pos (by decide), if_pos rfl, if_pos rfl, show (e0 * 6 + d0) / 6 = e0 by omega]
  rw [hB]
  have q0 : va_up Q 0 (e0 * 6 + d0) 0 = e0 * 6 + d0 := if_pos rfl
  refine BI.run hmo 486 0 (fun _ => 0) 0 _ rfl (Nat.zero_le _) ⟨Nat.one_pos, ?_, rfl, ?_, ?_, ?_, ?_, ?_⟩ (fun _ => Nat.zero_le _) (fun j hj => absurd hj (Nat.not_lt_zero j))
  · show 1 = cn (va_up (fun _ => none) (e0 * 6 + d0) (some 0)) 486
    rw [cn_up rfl, cn_0, if_pos (by omega)]
  · intro j hj
    have hj : j < 1 := hj
    have : j = 0 := by omega
    subst this
    show va_up Q 0 (e0 * 6 + d0) 0 < 486 ∧ pe G u (e0 * 6 + d0) 0 = some (va_up Q 0 (e0 * 6 + d0) 0) ∧ va_up (fun _ => none) (e0 * 6 + d0) (some 0) (va_up Q 0 (e0 * 6 + d0) 0) = some (bp 0) ∧ 0 ≤ 0 ∧ (0 = 0 ∨ ln 0 ≤ mo)
    rw [q0, bp_0]
    exact ⟨by omega, pe_0 _ _ _, if_pos rfl, Nat.le_refl _, Or.inl rfl⟩
  · intro a b hab hb
    have hb : b < 1 := hb
    omega
  · intro q p hp
    have hp : va_up (fun _ => none) (e0 * 6 + d0) (some 0) q = some p := hp
    refine ⟨0, Nat.one_pos, ?_⟩
    show va_up Q 0 (e0 * 6 + d0) 0 = q
    rw [q0]
    by_cases c : q = e0 * 6 + d0
    · exact c.symm
    · exact absurd ((if_neg c).symm.trans hp) (fun z => by cases z)
  · intro x hx2 j hj
    have hj : j < 1 := hj
    have hx2 : va_up (fun _ => none) e0 (some (e0 * 6 + d0)) x = none := hx2
    have : j = 0 := by omega
    subst this
    show va_up Q 0 (e0 * 6 + d0) 0 / 6 ≠ x
    rw [q0]
    intro z
    have : x = e0 := by omega
    subst this
    exact absurd ((if_pos rfl).symm.trans hx2) (fun z => by cases z)
  · intro x q hx2
    have hx2 : va_up (fun _ => none) e0 (some (e0 * 6 + d0)) x = some q := hx2
    by_cases c : x = e0
    · subst c
      have eq : x * 6 + d0 = q := Option.some.inj ((if_pos rfl).symm.trans hx2)
      exact ⟨0, Nat.one_pos, q0.trans eq, by omega, fun a ha => absurd ha (Nat.not_lt_zero a)⟩
    · exact absurd ((if_neg c).symm.trans hx2) (fun z => by cases z)
theorem BI.all {G : Gm} {u st mo bd : Nat} {κ : Nat → Nat} {B : Bm} (h : BI G u st mo κ bd B) (hg : GG G u mo B.2.2.2 κ B) (k : Nat) : ∀ q, pe G u st k = some q → ln k ≤ mo → ∃ j, j < B.2.2.2 ∧ B.2.1 j = q ∧ κ j ≤ k := by
  induction k using Nat.strongRecOn with
  | _ k ih =>
    intro q hq hl
    by_cases h0 : k = 0
    · subst h0
      have := (h.2.2.2.1 0 h.1).2.1
      rw [h.2.2.1, hq] at this
      exact ⟨0, h.1, (Option.some.inj this).symm, by rw [h.2.2.1]; exact Nat.le_refl _⟩
    · have hq2 := hq
      rw [pe_s h0] at hq2
      obtain ⟨pl, h1, h2⟩ := Option.bind_eq_some_iff.mp hq2
      rw [ln_s h0] at hl
      obtain ⟨j, a1, a2, a3⟩ := ih _ (by omega) pl h1 (by omega)
      have hm := ln_mono a3
      rw [← a2] at h2
      obtain ⟨a, b1, b2, b3⟩ := hg j a1 a1 (by omega) _ (by omega) (by omega) q h2
      exact ⟨a, b1, b2, by omega⟩
/-- the best path to a hex -/
theorem BI.best {G : Gm} {u st mo bd : Nat} {κ : Nat → Nat} {B : Bm} (h : BI G u st mo κ bd B) (hg : GG G u mo B.2.2.2 κ B) (y : Nat) : (bbest B y = 0 ∧ (y = st / 6 ∨ ∀ k q, pe G u st k = some q → q / 6 = y → ¬ ln k ≤ mo)) ∨ ∃ k q, ¬ y = st / 6 ∧ k ≠ 0 ∧ bbest B y = bp k ∧ ln k ≤ mo ∧ pe G u st k = some q ∧ q / 6 = y ∧ bhead B y = q % 6 ∧ ∀ k2 q2, pe G u st k2 = some q2 → q2 / 6 = y → ln k2 ≤ mo → k ≤ k2 := by
  have hst : B.2.1 0 = st := by
    have := (h.2.2.2.1 0 h.1).2.1
    rw [h.2.2.1, pe_0] at this
    exact (Option.some.inj this).symm
  cases e : B.2.2.1 y with
  | none =>
    refine Or.inl ⟨by unfold bbest; rw [e], Or.inr (fun k q hq hy hl => ?_)⟩
    obtain ⟨j, a1, a2, _⟩ := h.all hg k q hq hl
    exact h.2.2.2.2.2.2.1 y e j a1 (by rw [a2]; exact hy)
  | some pl =>
    obtain ⟨j, a1, a2, a3, a4⟩ := h.2.2.2.2.2.2.2 y pl e
    obtain ⟨b1, b2, b3, b4, b5⟩ := h.2.2.2.1 j a1
    have hbest : bbest B y = bp (κ j) := by
      rw [bbest_s e, ← a2, b3]; rfl
    by_cases hy : y = st / 6
    · have j0 : j = 0 := Classical.byContradiction (fun z => a4 0 (by omega) (by rw [hst]; exact hy.symm))
      refine Or.inl ⟨?_, Or.inl hy⟩
      rw [hbest, j0, h.2.2.1, bp_0]
    · have k0 : κ j ≠ 0 := fun z => hy (by
        rw [z, pe_0] at b2
        rw [← a3, ← a2, ← Option.some.inj b2])
      refine Or.inr ⟨κ j, pl, hy, k0, hbest, b5.resolve_left k0, by rw [b2, a2], a3, by unfold bhead; rw [e]; rfl, fun k2 q2 hk2 hq2 hl2 => ?_⟩
      obtain ⟨j2, c1, c2, c3⟩ := h.all hg k2 q2 hk2 hl2
      have hjj : j ≤ j2 := Nat.le_of_not_lt (fun z => a4 j2 z (by rw [c2]; exact hq2))
      by_cases ejj : j = j2
      · rw [ejj]; exact c3
      · have := h.2.2.2.2.1 j j2 (by omega) c1
        omega
