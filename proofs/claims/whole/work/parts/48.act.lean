/-! THE TIE: what the state hangs on; what an action records -/
theorem gx_e {s s2 : Nat → Int32} (h : ∀ j, j < 181 → s2 j = s j) {i k : Nat} (hi : i < 8) (hk : k < 11) : gx s2 i k = gx s i k := h _ (by omega)
theorem Rdy.mono {T U : Nat} (hU : T ≤ U) {r f : Int32} (h : Rdy T r f) : Rdy U r f := h.elim (fun z => Or.inl z) (fun ⟨k, a, b⟩ => Or.inr ⟨k, Nat.le_trans a hU, b⟩)
theorem Shp.mono {T U sn : Nat} (hU : T ≤ U) {F : Nat → Int32} (h : Shp T sn F) : Shp U sn F := ⟨h.1, h.2.1, h.2.2.1, h.2.2.2.1, h.2.2.2.2.1, h.2.2.2.2.2.1, h.2.2.2.2.2.2.1, h.2.2.2.2.2.2.2.1, h.2.2.2.2.2.2.2.2.1.mono (by omega), h.2.2.2.2.2.2.2.2.2.1.mono (by omega), h.2.2.2.2.2.2.2.2.2.2⟩
theorem Shr.mono {T U : Nat} (hU : T ≤ U) {F s : Nat → Int32} {i : Nat} {d : Int32 → Int32} (h : Shr T F s i d) : Shr U F s i d := ⟨h.1, h.2.1, h.2.2.1, h.2.2.2.1, h.2.2.2.2.1, h.2.2.2.2.2.1, h.2.2.2.2.2.2.1, h.2.2.2.2.2.2.2.1, h.2.2.2.2.2.2.2.2.1.mono hU, h.2.2.2.2.2.2.2.2.2.1.mono hU, h.2.2.2.2.2.2.2.2.2.2⟩
theorem Shr.ext {T : Nat} {F s s2 : Nat → Int32} {i : Nat} {d : Int32 → Int32} (h : Shr T F s i d) (e : ∀ k, k < 11 → gx s2 i k = gx s i k) : Shr T F s2 i d := by
  unfold Shr
  rw [e 0 (by decide), e 1 (by decide), e 2 (by decide), e 3 (by decide), e 4 (by decide), e 5 (by decide), e 6 (by decide), e 7 (by decide), e 8 (by decide), e 9 (by decide), e 10 (by decide)]
  exact h
theorem Cap.ext {G : Gm} {s s2 : Nat → Int32} {c : Nat} (h : Cap G s c) (e : ∀ j, j < 10 → s2 j = s j) (hc : c < 2) : Cap G s2 c := by
  unfold Cap
  rw [e (4 + c) (by omega), e (8 + c) (by omega), e (6 + c) (by omega)]
  exact h
theorem RGd.mono {T U sn : Nat} {dn : Nat → Int32 → Int32} {G : Gm} {s : Nat → Int32} (h : RGd T sn dn G s) (hU : T ≤ U) : RGd U sn dn G s :=
  ⟨h.n, h.k4, h.s10, h.tB.mono (by omega), h.s0, h.mv, h.s1, h.dB, h.s2, h.fB, h.s3, h.s11, h.cap, h.isl, fun i hi => (h.shp i hi).mono hU, fun i hi => (h.shr i hi).mono hU, h.fsh, h.wok⟩
theorem RGd.ext {T sn : Nat} {dn : Nat → Int32 → Int32} {G : Gm} {s s2 : Nat → Int32} (h : RGd T sn dn G s) (e : ∀ j, j < 181 → s2 j = s j) : RGd T sn dn G s2 :=
  ⟨h.n, h.k4, (e 10 (by decide)).trans h.s10, h.tB, (e 0 (by decide)).trans h.s0, h.mv, (e 1 (by decide)).trans h.s1, h.dB, (e 2 (by decide)).trans h.s2, h.fB, (e 3 (by decide)).trans h.s3, (e 11 (by decide)).trans h.s11, fun c hc => (h.cap c hc).ext (fun j hj => e j (by omega)) hc, fun j hj => ⟨(h.isl j hj).1, (e _ (by omega)).trans (h.isl j hj).2⟩, h.shp, fun i hi => (h.shr i hi).ext (fun k hk => gx_e e (by have := h.n; omega) hk), h.fsh, fun i hi => by rw [gx_e e hi (by decide)]; exact h.wok i hi⟩
theorem RS.mono {T U : Nat} {S : Sm} {s : Nat → Int32} (h : RS T S s) (hU : T ≤ U) : RS U S s := by
  obtain ⟨⟨sn, h1⟩, ⟨b0, b1, a1, a2, a3, a4, a5, a6, a7⟩, h3⟩ := h
  exact ⟨⟨sn, h1.mono hU⟩, ⟨b0, b1, a1, a2, a3, a4, a5, fun z => (a6 z).elim fun n q => ⟨n, q.mono hU⟩, fun z => (a7 z).elim fun n q => ⟨n, q.mono hU⟩⟩, h3⟩
theorem RS.ext {T : Nat} {S : Sm} {s s2 : Nat → Int32} (h : RS T S s) (e : ∀ j, j < 545 → s2 j = s j) : RS T S s2 := by
  obtain ⟨⟨sn, h1⟩, ⟨b0, b1, a1, a2, a3, a4, a5, a6, a7⟩, h3⟩ := h
  exact ⟨⟨sn, h1.ext (fun j hj => e j (by omega))⟩, ⟨b0, b1, a1, a2, (e _ (by decide)).trans a3, (e _ (by decide)).trans a4, a5, fun z => (a6 z).elim fun n q => ⟨n, q.ext (fun j hj => e _ (by omega))⟩, fun z => (a7 z).elim fun n q => ⟨n, q.ext (fun j hj => e _ (by omega))⟩⟩, h3⟩
theorem RC.mono {T U : Nat} {C : Cm} {M : Mm} (h : RC T C M) (hU : T ≤ U) : RC U C M := ⟨h.1.mono hU, h.2.1, h.2.2.1, fun j hj => (h.2.2.2.1 j hj).mono hU, h.2.2.2.2⟩
/-- the state of the class stays, but for the game: so do the slots -/
theorem RS.game {T : Nat} {S : Sm} {s s2 : Nat → Int32} (h : RS T S s) {G : Gm} (hG : ∃ sn, RG T sn G s2) (e : ∀ j, 181 ≤ j → s2 j = s j) : RS T (G, S.2) s2 := by
  obtain ⟨_, ⟨b0, b1, a1, a2, a3, a4, a5, a6, a7⟩, h3⟩ := h
  exact ⟨hG, ⟨b0, b1, a1, a2, (e _ (by decide)).trans a3, (e _ (by decide)).trans a4, a5, fun z => (a6 z).elim fun n q => ⟨n, q.ext (fun j hj => e _ (by omega))⟩, fun z => (a7 z).elim fun n q => ⟨n, q.ext (fun j hj => e _ (by omega))⟩⟩, h3⟩
/-- what is recorded, row by row -/
theorem rec_new (M : Mm) {n : Nat} (hn : n ≤ 6) {k : Nat} (hk : k < 545) : (z_rec M n).2.2.1 (545 * (min (n + 1) 6 - 1) + k) = M.2.1 k := by
  unfold z_rec
  by_cases h : n = 6
  · subst h
    rw [if_pos rfl]
    show z_cp (z_sh M.2.2.1 2725) M.2.1 5 545 (545 * (min (6 + 1) 6 - 1) + k) = M.2.1 k
    rw [show min (6 + 1) 6 - 1 = 5 from rfl]
    unfold z_cp
    rw [if_pos (by omega), show 545 * 5 + k - 545 * 5 = k by omega]
  · rw [if_neg h]
    show z_cp M.2.2.1 M.2.1 n 545 (545 * (min (n + 1) 6 - 1) + k) = M.2.1 k
    rw [show min (n + 1) 6 - 1 = n by omega]
    unfold z_cp
    rw [if_pos (by omega), show 545 * n + k - 545 * n = k by omega]
theorem rec_old (M : Mm) {n : Nat} (hn : n ≤ 6) {j : Nat} (hj : j + 1 < min (n + 1) 6) {k : Nat} (hk : k < 545) : (z_rec M n).2.2.1 (545 * (min (n + 1) 6 - 1 - (j + 1)) + k) = M.2.2.1 (545 * (n - 1 - j) + k) := by
  unfold z_rec
  by_cases h : n = 6
  · subst h
    rw [if_pos rfl]
    show z_cp (z_sh M.2.2.1 2725) M.2.1 5 545 (545 * (min (6 + 1) 6 - 1 - (j + 1)) + k) = _
    rw [show min (6 + 1) 6 - 1 - (j + 1) = 4 - j by omega]
    unfold z_cp z_sh
    rw [if_neg (by omega), if_pos (by omega), show 545 + (545 * (4 - j) + k) = 545 * (6 - 1 - j) + k by omega]
  · rw [if_neg h]
    show z_cp M.2.2.1 M.2.1 n 545 (545 * (min (n + 1) 6 - 1 - (j + 1)) + k) = _
    rw [show min (n + 1) 6 - 1 - (j + 1) = n - 1 - j by omega]
    unfold z_cp
    rw [if_neg (by omega)]
theorem rec_n (M : Mm) {n : Nat} (hn : n ≤ 6) : (z_rec M n).1 3 = nI (min (n + 1) 6) := by
  rw [z_rec_3]
  by_cases h : n = 6
  · subst h; rfl
  · rw [if_neg h, show min (n + 1) 6 = n + 1 by omega]
/-- an action that succeeds, in both -/
theorem RC.push {T : Nat} {C : Cm} {M : Mm} (h : RC T C M) {S : Sm} {s : Nat → Int32} (hS : RS T S s) {v : Int32} (hv : 0 ≤ v) : RC T (cact C v S) (sM (z_rec M C.2.1) s) := by
  obtain ⟨h1, h2, h3, h4, h5, h6, h7, h8⟩ := h
  obtain ⟨F2, b2, e, hF⟩ := z_rec_form M C.2.1
  have r3 := rec_n M h2
  have hnew := fun k (hk : k < 545) => rec_new M h2 hk
  have hold := fun j (hj : j + 1 < min (C.2.1 + 1) 6) k (hk : k < 545) => rec_old M h2 hj hk
  rw [e] at r3 hnew hold ⊢
  unfold cact
  rw [if_pos hv]
  refine ⟨hS, Nat.min_le_right _ _, r3, fun j hj => ?_, h5, (hF 4 (by decide)).trans h6, h7, (hF 6 (by decide)).trans h8⟩
  have hj : j < min (C.2.1 + 1) 6 := hj
  show RS T (if j = 0 then C.1 else C.2.2.1 (j - 1)) (fun k => b2 (545 * (min (C.2.1 + 1) 6 - 1 - j) + k))
  by_cases c : j = 0
  · subst c
    rw [if_pos rfl]
    exact h1.ext (fun k hk => hnew k hk)
  · obtain ⟨a, rfl⟩ : ∃ a, j = a + 1 := ⟨j - 1, by omega⟩
    rw [if_neg c]
    exact (h4 a (by omega)).ext (fun k hk => hold a hj k hk)
/-- one move, in both: the same answer, the same game behind it, and it is recorded alike -/
def SIM (T : Nat) (r : Int32 × Gm) (M : Mm) (m : Nat) (z : Int32 × Mm) : Prop := r.1 = z.1 ∧ (∃ sn, RG T sn r.2 z.2.2.1) ∧ (∀ j, 181 ≤ j → z.2.2.1 j = M.2.1 j) ∧ ((z.1 < 0 ∧ z.2 = M) ∨ (0 ≤ z.1 ∧ z.2 = sM (z_act M m) z.2.2.1))
theorem SIM.err {T sn : Nat} {G : Gm} {M : Mm} (h : RG T sn G M.2.1) {v : Int32} (hv : v < 0) (m : Nat) : SIM T (v, G) M m (v, M) := ⟨rfl, ⟨sn, h⟩, fun _ _ => rfl, Or.inl ⟨hv, rfl⟩⟩
theorem SIM.ok {T sn : Nat} {G : Gm} {M : Mm} {s : Nat → Int32} (h : RG T sn G s) (e : ∀ j, 181 ≤ j → s j = M.2.1 j) {v w : Int32} (hvw : v = w) (hv : 0 ≤ w) (m : Nat) : SIM T (v, G) M m (w, sM (z_act M m) s) := ⟨hvw, ⟨sn, h⟩, e, Or.inr ⟨hv, rfl⟩⟩
theorem SIM.mono {T U : Nat} (hU : T ≤ U) {r : Int32 × Gm} {M : Mm} {m : Nat} {z : Int32 × Mm} (h : SIM T r M m z) : SIM U r M m z := ⟨h.1, h.2.1.elim fun n q => ⟨n, q.mono hU⟩, h.2.2⟩
theorem RC.act {T U : Nat} (hU : T ≤ U) {C : Cm} {M : Mm} (h : RC T C M) {r : Int32 × Gm} {z : Int32 × Mm} (hs : SIM U r M C.2.1 z) : r.1 = z.1 ∧ RC U (cact C r.1 (r.2, C.1.2)) z.2 := by
  have h := h.mono hU
  obtain ⟨e1, e2, e3, e4⟩ := hs
  refine ⟨e1, ?_⟩
  have hS : RS U (r.2, C.1.2) z.2.2.1 := h.1.game e2 e3
  rcases e4 with ⟨a1, a2⟩ | ⟨a1, a2⟩
  · rw [a2] at hS ⊢
    unfold cact
    rw [if_neg (by rw [e1]; exact Int32.not_le.mpr a1)]
    exact ⟨hS, h.2⟩
  · have hz : z_act M C.2.1 = z_rec M C.2.1 := if_pos h.2.2.2.2.2.2.2
    rw [hz] at a2
    rw [a2]
    exact h.push hS (by rw [e1]; exact a1)
