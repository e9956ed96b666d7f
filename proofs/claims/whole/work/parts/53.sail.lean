/-! THE TIE: sail, repair -/
theorem sS_sS (G : Gm) (i : Nat) (F H : Nat → Int32) : sS (sS G i F) i H = sS G i H := by
  unfold sS
  congr 2
  funext a
  by_cases e : a = i
  · rw [if_pos e, if_pos e]
  · rw [if_neg e, if_neg e]; exact if_neg e
theorem sF_sS {G : Gm} {i : Nat} {F : Nat → Int32} (h0 : F 0 = nI i) (j : Nat) (v : Int32) : sF (sS G i F) i j v = sS G i (upd F j v) := by
  unfold sF
  rw [shF_sS h0, sS_sS]
theorem dg_all (p : Nat) : dg p = true → ∀ r, r < nd p → 1 ≤ p / 10 ^ r % 10 ∧ p / 10 ^ r % 10 ≤ 3 := by
  induction p using Nat.strongRecOn with
  | _ p ih =>
    intro hd r hr
    by_cases h0 : p = 0
    · subst h0; rw [nd_0] at hr; omega
    · rw [nd_s h0] at hr
      rw [dg_s h0, Bool.and_eq_true, Bool.and_eq_true, decide_eq_true_eq, decide_eq_true_eq] at hd
      cases r with
      | zero => rw [Nat.pow_zero, Nat.div_one]; exact hd.1
      | succ r =>
        rw [Nat.pow_succ, Nat.mul_comm (10 ^ r) 10, ← Nat.div_div_eq_div_mul]
        exact ih (p / 10) (by omega) hd.2 r (by omega)
theorem size_pok (p : Int32) : (k_pok p = true ∧ ∃ q, p = nI q ∧ q < 1000000 ∧ z_size p = nd q ∧ nd q ≤ 6 ∧ nd q ≠ 0 ∧ dg q = true) ∨ (¬ k_pok p = true ∧ z_size p = 0) := by
  unfold k_pok z_size
  by_cases hp : 0 < p
  · obtain ⟨q, hq, eq, ec⟩ := pos_nI hp
    rw [if_pos hp, ec]
    unfold zsz
    have hq0 : q ≠ 0 := fun z => by
      rw [eq, z] at hp
      exact absurd hp (by decide)
    by_cases c : q ≤ 999999 ∧ dg q = true
    · have h6 := nd_le 6 q (by omega)
      refine Or.inl ⟨decide_eq_true ⟨⟨hp, by rw [eq]; exact (nI_leI (b := 999999) hq (by decide)).mpr c.1⟩, c.2⟩, q, eq, by omega, ?_, h6, ?_, c.2⟩
      · rw [if_pos ⟨c.2, by omega⟩, Nat.zero_add]
      · rw [nd_s hq0]; omega
    · refine Or.inr ⟨fun z => c ?_, ?_⟩
      · have z := of_decide_eq_true z
        rw [eq] at z
        exact ⟨(nI_leI (b := 999999) hq (by decide)).mp z.1.2, z.2⟩
      · rw [if_neg]
        intro z
        have := nd_lt 6 q (by omega)
        exact c ⟨by omega, z.1⟩
  · exact Or.inr ⟨fun z => hp (of_decide_eq_true z).1.1, if_neg hp⟩
theorem done_fin : ∀ v : Fin 8, (z_has (nI v.1) 0 = true ↔ ¬ nI v.1 &&& 1 = 0) ∧ (∃ w : Fin 8, nI v.1 ||| 1 = nI w.1) ∧ (∃ w : Fin 8, nI v.1 ||| 2 = nI w.1) ∧ (∃ w : Fin 8, nI v.1 ||| 4 = nI w.1) := by decide +kernel
section TL
variable {T sn : Nat} {dn : Nat → Int32 → Int32} {G : Gm} {s : Nat → Int32} {M : Mm}
theorem RGd.goq (h : RGd T sn dn G s) {i : Nat} (hi : i < sn) (hf : 0 < shF G i 4) {p : Nat} : ∀ (n e d : Nat), e < 81 → d < 6 → (∀ r, r < n → 1 ≤ p / 10 ^ r % 10 ∧ p / 10 ^ r % 10 ≤ 3) → (∃ x b, x < 81 ∧ b < 6 ∧ k_go G i p n (nI e) (nI d) = some (nI x, nI b) ∧ z_go s sn i p n (nI e) (nI d) = (true, nI x, nI b)) ∨ (k_go G i p n (nI e) (nI d) = none ∧ (z_go s sn i p n (nI e) (nI d)).1 = false)
  | 0, e, d, he, hd, _ => Or.inl ⟨e, d, he, hd, rfl, rfl⟩
  | n + 1, e, d, he, hd, hr => by
    rcases h.gstep hi hf he hd (p := p) (r := n) rfl (hr n (Nat.lt_succ_self n)).1 (hr n (Nat.lt_succ_self n)).2 with ⟨q, a1, _, a3, a4⟩ | ⟨_, a2, a3⟩
    · rw [a3, a4]
      exact h.goq hi hf n (q / 6) (q % 6) (by omega) (by omega) (fun r hr2 => hr r (by omega))
    · exact Or.inr ⟨a3, a2⟩
theorem sim_sail (h : RG T sn G M.2.1) (m : Nat) (x p : Int32) : SIM T (k_sail G x p) M m (zw_sail M sn m x p) := by
  have hn := h.n
  unfold k_sail zw_sail
  rcases h.known x with ⟨hx, e⟩ | ⟨i, hi, rfl, e⟩
  · rw [e, if_neg (fun z => hx z.1)]
    exact SIM.err h (by decide) m
  · rw [e]
    dsimp only
    rcases size_pok p with ⟨hp, q, rfl, hq, hz, h6, h0, hdg⟩ | ⟨hp, hz⟩
    · rw [if_pos hp, hz, if_pos (show (0 ≤ nI i ∧ nI i < nI sn) ∧ ¬ nd q = 0 from ⟨in_sn hi hn, h0⟩), nI_clamp (show i < 2 ^ 31 by omega), nI_clamp (show q < 2 ^ 31 by omega)]
      unfold zw_sail2 z_goR
      rw [hz, nI_clamp (show q < 2 ^ 31 by omega), ← h.now hi, h.s1]
      have hpp := h.shp i (by omega)
      have hr := h.shr i hi
      obtain ⟨dv, hdv, edv⟩ := hpp.2.2.2.2.2.2.2.2.2.2
      have e10 : gx M.2.1 i 10 = nI dv := hr.2.2.2.2.2.2.2.2.2.2.trans edv
      obtain ⟨f1, ⟨w, f2⟩, _⟩ := done_fin ⟨dv, hdv⟩
      by_cases c : G.1 1 = 0 ∨ ¬ 0 < shF G i 4 ∨ ¬ shF G i 11 &&& 1 = 0 ∨ k_now G i < nI (nd q)
      · rw [if_pos c, if_neg]
        · exact SIM.err h (by decide) m
        · rintro ⟨z1, z2, z3, z4, _⟩
          rcases c with c | c | c | c
          · exact z1 c
          · exact c ((h.fl hi).mp z2)
          · rw [e10] at z3
            rw [edv] at c
            exact z3 (f1.mpr c)
          · exact Int32.not_le.mpr c z4
      · have c1 : ¬ G.1 1 = 0 := fun z => c (Or.inl z)
        have c2 : 0 < shF G i 4 := Classical.byContradiction (fun z => c (Or.inr (Or.inl z)))
        have c3 : shF G i 11 &&& 1 = 0 := Classical.byContradiction (fun z => c (Or.inr (Or.inr (Or.inl z))))
        have c4 : ¬ k_now G i < nI (nd q) := fun z => c (Or.inr (Or.inr (Or.inr z)))
        rw [if_neg c]
        obtain ⟨e0, he0, ee0⟩ := hpp.2.1
        obtain ⟨d0, hd0, ed0⟩ := hpp.2.2.1
        have hx1 : gx M.2.1 i 1 = nI e0 := (h.hx hi c2).trans ee0
        have hx2 : gx M.2.1 i 2 = nI d0 := hr.2.2.1.trans ed0
        rw [ee0, ed0, hx1, hx2]
        have z3 : ¬ z_has (gx M.2.1 i 10) 0 = true := by
          rw [e10]
          rw [edv] at c3
          exact fun z => f1.mp z c3
        rcases h.goq hi c2 (p := q) (nd q) e0 d0 he0 hd0 (dg_all q hdg) with ⟨x2, b2, hx, hb, g1, g2⟩ | ⟨g1, g2⟩
        · rw [g1, g2, if_pos ⟨c1, nI_pos' (by omega), z3, Int32.not_lt.mp c4, rfl⟩]
          unfold k_sfin z_sl
          dsimp only
          have n0 : ¬ shF G i 4 = 0 := fun z => by rw [z] at c2; exact absurd c2 (by decide)
          have s1 := h.pHex hi ⟨x2, hx, rfl⟩ n0
          have s2 := s1.pHdg hi ⟨b2, hb, rfl⟩
          have ev : shF (sF (sF G i 2 (nI x2)) i 3 (nI b2)) i 11 = nI dv := by
            rw [shF_sFe _ _ (by decide), shF_sFe _ _ (by decide), pk_un (by decide), pk_un (by decide)]; exact edv
          have ew : gx (px (px M.2.1 i 1 (nI x2)) i 2 (nI b2)) i 10 = nI dv := by
            rw [gx_px (by decide) (by decide) (by decide), gx_px (by decide) (by decide) (by decide)]; exact e10
          rw [ev, ew]
          have s3 := s2.pDone hi (v := nI dv ||| 1) ⟨w.1, w.2, f2⟩
          refine SIM.ok s3 (fun j hj => ?_) rfl (nI_pos' (by omega)) m
          rw [px_hi _ (by omega) (by decide) _ hj, px_hi _ (by omega) (by decide) _ hj, px_hi _ (by omega) (by decide) _ hj]
        · rw [g1, if_neg (fun z => by rw [g2] at z; exact absurd z.2.2.2.2 Bool.false_ne_true)]
          exact SIM.err h (by decide) m
    · rw [if_neg hp, if_neg (fun z => z.2 hz)]
      exact SIM.err h (by decide) m
end TL
