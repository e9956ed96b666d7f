/-! THE TIE: tell, addShip -/
theorem lay_fin : ∀ hd : Fin 64, ∀ x : Fin 6, hd.1.testBit x.1 = true → nI hd.1 - 1 <<< (nI x.1 &&& 31) = nI (hd.1 - 2 ^ x.1) ∧ nI hd.1 &&& (1 <<< (nI x.1 &&& 31) ^^^ (-1)) = nI (hd.1 - 2 ^ x.1) := by decide +kernel
theorem hold_fin : ∀ hd : Fin 64, ∀ x : Fin 6, (k_hold (nI hd.1) (nI x.1) = true ↔ hd.1.testBit x.1 = true) := by decide +kernel
theorem has_fin : ∀ hd : Fin 64, ∀ x : Fin 6, (z_has (nI hd.1) (nI x.1) = true ↔ hd.1.testBit x.1 = true) := by decide +kernel
section TI
variable {T sn : Nat} {dn : Nat → Int32 → Int32} {G : Gm} {s : Nat → Int32} {M : Mm}
theorem k_lay_ev {F : Nat → Int32} {hd x : Nat} (h64 : hd < 64) (hx : x < 6) (hb : hd.testBit x = true) (f0 : F 0 = nI hd) (f1 : F 1 = nI x) : k_lay F 0 = nI (if hd - 2 ^ x = 0 then 63 else hd - 2 ^ x) ∧ k_lay F 1 = -9 ∧ k_lay F 2 = F 2 := by
  have hold : k_hold (F 0) (F 1) = true := by rw [f0, f1]; exact (hold_fin ⟨hd, h64⟩ ⟨x, hx⟩).mpr hb
  unfold k_lay
  rw [if_pos hold, f0, f1, (lay_fin ⟨hd, h64⟩ ⟨x, hx⟩ hb).1]
  dsimp only
  rw [show upd (upd F 0 (nI (hd - 2 ^ x))) 1 (-9) 0 = nI (hd - 2 ^ x) from rfl]
  by_cases c : hd - 2 ^ x = 0
  · rw [c, if_pos (show nI 0 = 0 from rfl), if_pos (show (0 : Nat) = 0 from rfl)]
    exact ⟨rfl, rfl, rfl⟩
  · rw [if_neg (show ¬ nI (hd - 2 ^ x) = 0 from fun z => c ((nI_eq (b := 0) (Nat.lt_of_le_of_lt (Nat.sub_le _ _) (Nat.lt_trans h64 (by decide))) (by decide)).mp z)), if_neg c]
    exact ⟨rfl, rfl, rfl⟩
theorem z_lay_ev {i : Nat} (hi : i < 2) {hd x : Nat} (h64 : hd < 64) (hx : x < 6) (hb : hd.testBit x = true) (f0 : s (4 + i) = nI hd) (f1 : s (6 + i) = nI x) : z_lay s i (4 + i) = nI (if hd - 2 ^ x = 0 then 63 else hd - 2 ^ x) ∧ z_lay s i (6 + i) = -1 ∧ ∀ j, j ≠ 4 + i → j ≠ 6 + i → z_lay s i j = s j := by
  unfold z_lay
  rw [f0, f1, (lay_fin ⟨hd, h64⟩ ⟨x, hx⟩ hb).2]
  dsimp only
  rw [show upd s (4 + i) (nI (hd - 2 ^ x)) (4 + i) = nI (hd - 2 ^ x) from pk_us]
  refine ⟨?_, pk_us, fun j h4 h6 => by rw [pk_un h6, pk_un h4, pk_un h4]⟩
  rw [pk_un (show 4 + i ≠ 6 + i by omega), pk_us]
  by_cases c : hd - 2 ^ x = 0
  · rw [c, if_pos (show nI 0 = 0 from rfl), if_pos (show (0 : Nat) = 0 from rfl)]; rfl
  · rw [if_neg (show ¬ nI (hd - 2 ^ x) = 0 from fun z => c ((nI_eq (b := 0) (Nat.lt_of_le_of_lt (Nat.sub_le _ _) (Nat.lt_trans h64 (by decide))) (by decide)).mp z)), if_neg c]
theorem RGd.lay (h : RGd T sn dn G s) {c : Nat} (hc : c < 2) (ht : ¬ cF G c 1 = -9) : RGd T sn dn (sC G c (k_lay (cF G c))) (z_lay s c) := by
  obtain ⟨hd, p0, p1, p2, p3, p4, p5, p6⟩ := h.cap c hc
  rcases p6 with q | ⟨x, q1, q2, q3, q4, q5⟩
  · exact absurd q.1 ht
  · obtain ⟨k0, k1, k2⟩ := k_lay_ev p1 q1 q4 p2 q2
    obtain ⟨z0, z1, z2⟩ := z_lay_ev hc p1 q1 q4 p3 q3
    refine h.capt hc (fun j hj h4 h6 h8 => z2 j h4 h6) ⟨if hd - 2 ^ x = 0 then 63 else hd - 2 ^ x, ?_, ?_, ?_, z0, ?_, ?_, Or.inl ⟨?_, z1⟩⟩
    · split
      · decide
      · rename_i z; exact Nat.pos_of_ne_zero z
    · split
      · decide
      · exact Nat.lt_of_le_of_lt (Nat.sub_le _ _) p1
    · rw [cF_sC (by decide)]; exact k0
    · rw [cF_sC (by decide), k2]; exact p4
    · rw [cF_sC (by decide), k2, z2 _ (by omega) (by omega)]; exact p5
    · rw [cF_sC (by decide)]; exact k1
theorem cF_lay_other {c c2 : Nat} (hne : c2 ≠ c) {j : Nat} (hj : j < 3) (F : Nat → Int32) : cF (sC G c F) c2 j = cF G c2 j := cF_sC' hj hne
theorem RGd.begin (h : RGd T sn dn G s) (h0 : ¬ cF G 0 1 = -9) (h1 : ¬ cF G 1 1 = -9) : RGd T sn dn (k_begin G) (z_beg s) := by
  obtain ⟨hd0, _, _, _, _, _, _, q0⟩ := h.cap 0 (by decide)
  obtain ⟨hd1, _, _, _, _, _, _, q1⟩ := h.cap 1 (by decide)
  obtain ⟨a, ha, a1, a2, _, a3⟩ := q0.resolve_left (fun z => h0 z.1)
  obtain ⟨b, hb, b1, b2, _, _⟩ := q1.resolve_left (fun z => h1 z.1)
  obtain ⟨w, hw, ew⟩ := h.dB
  have es : cF G 0 1 + cF G 1 1 = nI (a + b) := by rw [a1, b1, nI_add]
  have es2 : s 6 + s 7 = nI (a + b) := by rw [show s 6 = nI a from a2, show s 7 = nI b from b2, nI_add]
  have ed : k_dir G (nI (a + b)) = nI ((w + (a + b)) % 6) := by
    unfold k_dir
    rw [ew, nI_add, show (6 : Int32) = nI 6 from rfl, pk_rem (by omega) (by decide) (by decide)]
  have ed2 : s 2 + nI (a + b) - (s 2 + nI (a + b)) / 6 * 6 = nI ((w + (a + b)) % 6) := by
    rw [h.s2, ew, nI_add, show (6 : Int32) = nI 6 from rfl, pk_rem (by omega) (by decide) (by decide)]
  have ef : k_str (nI (a + b)) = nI ((a + b) % 3 + 1) := by
    unfold k_str
    rw [show (3 : Int32) = nI 3 from rfl, pk_rem (by omega) (by decide) (by decide), nI_1]
  have ef2 : nI (a + b) - nI (a + b) / 3 * 3 + 1 = nI ((a + b) % 3 + 1) := by
    rw [show (3 : Int32) = nI 3 from rfl, pk_rem (by omega) (by decide) (by decide), nI_1]
  have e2 : RGd T sn dn (sG (sG G 2 (nI ((w + (a + b)) % 6))) 3 (nI ((a + b) % 3 + 1))) (upd (upd s 2 (nI ((w + (a + b)) % 6))) 3 (nI ((a + b) % 3 + 1))) := by
    refine h.glob (f := upd (upd G.1 2 (nI ((w + (a + b)) % 6))) 3 (nI ((a + b) % 3 + 1))) (Nat.le_refl T) (fun j h6 _ => ?_) (fun j h6 _ => ?_) (fun j h6 _ => ?_) rfl h.tB h.s0 h.mv h.s1 ⟨_, Nat.mod_lt _ (by decide), rfl⟩ rfl ⟨_, by omega, by omega, rfl⟩ rfl h.s11 (Or.inl a3)
    · rw [pk_un (by omega), pk_un (by omega)]
    · rw [pk_un (by omega), pk_un (by omega)]
    · rw [pk_un (by omega), pk_un (by omega)]
  have c0 : ∀ c, cF (sG (sG G 2 (nI ((w + (a + b)) % 6))) 3 (nI ((a + b) % 3 + 1))) c = cF G c := fun c => by rw [cF_sG (by decide), cF_sG (by decide)]
  have e3 := e2.lay (c := 0) (by decide) (by rw [c0]; exact h0)
  have e4 := e3.lay (c := 1) (by decide) (by rw [cF_sC' (by decide) (by decide), c0]; exact h1)
  have n0 : cF (sC (sC (sG (sG G 2 (nI ((w + (a + b)) % 6))) 3 (nI ((a + b) % 3 + 1))) 0 (k_lay (cF (sG (sG G 2 (nI ((w + (a + b)) % 6))) 3 (nI ((a + b) % 3 + 1))) 0))) 1 (k_lay (cF (sC (sG (sG G 2 (nI ((w + (a + b)) % 6))) 3 (nI ((a + b) % 3 + 1))) 0 (k_lay (cF (sG (sG G 2 (nI ((w + (a + b)) % 6))) 3 (nI ((a + b) % 3 + 1))) 0))) 1))) 0 1 = -9 := by
    rw [cF_sC' (by decide) (by decide), cF_sC (by decide)]
    obtain ⟨hd, p0, p1, p2, p3, p4, p5, p6⟩ := e2.cap 0 (by decide)
    rcases p6 with z | ⟨x, z1, z2, z3, z4, _⟩
    · exact absurd z.1 (by rw [c0]; exact h0)
    · exact (k_lay_ev p1 z1 z4 p2 z2).2.1
  have n1 : cF (sC (sC (sG (sG G 2 (nI ((w + (a + b)) % 6))) 3 (nI ((a + b) % 3 + 1))) 0 (k_lay (cF (sG (sG G 2 (nI ((w + (a + b)) % 6))) 3 (nI ((a + b) % 3 + 1))) 0))) 1 (k_lay (cF (sC (sG (sG G 2 (nI ((w + (a + b)) % 6))) 3 (nI ((a + b) % 3 + 1))) 0 (k_lay (cF (sG (sG G 2 (nI ((w + (a + b)) % 6))) 3 (nI ((a + b) % 3 + 1))) 0))) 1))) 1 1 = -9 := by
    rw [cF_sC (by decide)]
    obtain ⟨hd, p0, p1, p2, p3, p4, p5, p6⟩ := e3.cap 1 (by decide)
    rcases p6 with z | ⟨x, z1, z2, z3, z4, _⟩
    · exact absurd z.1 (by rw [cF_sC' (by decide) (by decide), c0]; exact h1)
    · exact (k_lay_ev p1 z1 z4 p2 z2).2.1
  unfold k_begin z_beg
  dsimp only
  rw [es, es2, ed, ed2, show k_str (nI (a + b)) = nI ((a + b) % 3 + 1) from ef, ef2]
  refine RGd.glob e4 (f := upd _ 1 1) (Nat.le_refl T) (fun j h6 _ => pk_un (by omega)) (fun j h6 _ => pk_un (by omega)) (fun j h6 _ => pk_un (by omega)) (pk_un (by decide)) ?_ ?_ (Or.inr pk_us) ?_ ?_ ?_ ?_ ?_ ?_ (Or.inr (fun c hc => ?_))
  · rw [pk_un (by decide)]; exact e4.tB
  · rw [pk_un (by decide), pk_un (by decide)]; exact e4.s0
  · rw [pk_us, pk_us]
  · rw [pk_un (by decide)]; exact e4.dB
  · rw [pk_un (by decide), pk_un (by decide)]; exact e4.s2
  · rw [pk_un (by decide)]; exact e4.fB
  · rw [pk_un (by decide), pk_un (by decide)]; exact e4.s3
  · rw [pk_un (by decide), pk_un (by decide)]; exact e4.s11
  · rcases (by omega : c = 0 ∨ c = 1) with rfl | rfl
    · exact n0
    · exact n1
theorem z_told_ge (s : Nat → Int32) : 0 ≤ z_told s := by
  unfold z_told
  by_cases a : s 1 = 1
  · rw [if_pos a]; decide
  · rw [if_neg a]
    by_cases b : s 6 < 0
    · by_cases c : s 7 < 0
      · rw [if_pos b, if_pos c]; decide
      · rw [if_pos b, if_neg c]; decide
    · by_cases c : s 7 < 0
      · rw [if_neg b, if_pos c]; decide
      · rw [if_neg b, if_neg c]; decide
theorem z_beg_hi (s : Nat → Int32) {j : Nat} (hj : 12 ≤ j) : z_beg s j = s j := by
  have hl : ∀ (s : Nat → Int32) (i : Nat), i < 2 → z_lay s i j = s j := fun s i hi => by
    unfold z_lay
    rw [pk_un (by omega), pk_un (by omega), pk_un (by omega)]
  unfold z_beg
  rw [pk_un (by omega), zk_s, zk_s]
  show z_lay (z_lay _ 0) 1 j = s j
  rw [hl _ 1 (by decide), hl _ 0 (by decide), pk_un (by omega), pk_un (by omega)]
theorem sim_tell (h : RG T sn G M.2.1) (m : Nat) (c x : Int32) : SIM T (k_tell G c x) M m (zw_tell M m c x) := by
  unfold k_tell zw_tell
  by_cases q : (c = 0 ∨ c = 1) ∧ (0 ≤ x ∧ x < 6)
  · obtain ⟨k, hk, rfl⟩ := two_nI q.1
    obtain ⟨a, ha, rfl⟩ := i_nI (n := 6) q.2.1 q.2.2 (by decide)
    rw [if_pos q, if_pos (show (0 ≤ nI k ∧ nI k ≤ 1) ∧ 0 ≤ nI a ∧ nI a ≤ 5 from ⟨(two_r _).mp q.1, (six_r _).mp q.2⟩), nI_clamp (show k < 2 ^ 31 by omega), cix_nI hk]
    obtain ⟨hd, p0, p1, p2, p3, p4, p5, p6⟩ := h.cap k hk
    have i1 : ¬ G.1 1 = 0 ↔ M.2.1 1 = 1 := by
      rw [h.s1]
      rcases h.mv with e | e
      · rw [e]; exact ⟨fun z => absurd rfl z, fun z => absurd z (by decide)⟩
      · rw [e]; exact ⟨fun _ => rfl, fun _ => by decide⟩
    have i2 : ¬ cF G k 1 = -9 ↔ 0 ≤ M.2.1 (6 + k) := by
      rcases p6 with ⟨z1, z2⟩ | ⟨y, hy, z1, z2, _⟩
      · rw [z1, z2]; exact ⟨fun z => absurd rfl z, fun z => absurd z (by decide)⟩
      · rw [z1, z2]; exact ⟨fun _ => nI_pos' (by omega), fun _ z => absurd (nI_pos' (show y < 2 ^ 31 by omega)) (by rw [z]; decide)⟩
    have i3 : k_hold (cF G k 0) (nI a) = true ↔ z_has (M.2.1 (4 + k)) (nI a) = true := by
      rw [p2, p3, hold_fin ⟨hd, p1⟩ ⟨a, ha⟩, has_fin ⟨hd, p1⟩ ⟨a, ha⟩]
    by_cases e : ¬ G.1 1 = 0 ∨ ¬ cF G k 1 = -9 ∨ ¬ k_hold (cF G k 0) (nI a) = true
    · rw [if_pos e, if_pos (show M.2.1 1 = 1 ∨ 0 ≤ M.2.1 (6 + k) ∨ ¬ z_has (M.2.1 (4 + k)) (nI a) = true from e.elim (fun z => Or.inl (i1.mp z)) (fun z => z.elim (fun z => Or.inr (Or.inl (i2.mp z))) (fun z => Or.inr (Or.inr (fun y => z (i3.mpr y))))))]
      exact SIM.err h (by decide) m
    · rw [if_neg e, if_neg (show ¬ (M.2.1 1 = 1 ∨ 0 ≤ M.2.1 (6 + k) ∨ ¬ z_has (M.2.1 (4 + k)) (nI a) = true) from fun z => e (z.elim (fun z => Or.inl (i1.mpr z)) (fun z => z.elim (fun z => Or.inr (Or.inl (i2.mpr z))) (fun z => Or.inr (Or.inr (fun y => z (i3.mp y)))))))]
      have e0 : G.1 1 = 0 := Classical.byContradiction (fun z => e (Or.inl z))
      have e1 : cF G k 1 = -9 := Classical.byContradiction (fun z => e (Or.inr (Or.inl z)))
      have e2 : k_hold (cF G k 0) (nI a) = true := Classical.byContradiction (fun z => e (Or.inr (Or.inr z)))
      have hb : hd.testBit a = true := by rw [p2] at e2; exact (hold_fin ⟨hd, p1⟩ ⟨a, ha⟩).mp e2
      have h2 : RG T sn (sK G k 1 (nI a)) (upd M.2.1 (6 + k) (nI a)) := by
        refine h.capt hk (fun j hj h4 h6 h8 => pk_un h6) ⟨hd, p0, p1, ?_, ?_, ?_, ?_, Or.inr ⟨a, ha, ?_, ?_, hb, ?_⟩⟩
        · rw [cF_sC (by decide), pk_un (by decide)]; exact p2
        · rw [pk_un (by omega)]; exact p3
        · rw [cF_sC (by decide), pk_un (by decide)]; exact p4
        · rw [cF_sC (by decide), pk_un (show 8 + k ≠ 6 + k by omega), pk_un (show (2 : Nat) ≠ 1 by decide)]; exact p5
        · rw [cF_sC (by decide), pk_us]
        · rw [pk_us]
        · exact (show (sC G k (upd (cF G k) 1 (nI a))).1 1 = G.1 1 from if_neg (by omega)).trans e0
      have w : ∀ c, c < 2 → (cF (sK G k 1 (nI a)) c 1 = -9 ↔ upd M.2.1 (6 + k) (nI a) (6 + c) < 0) := fun c hc => by
        obtain ⟨_, _, _, _, _, _, _, r⟩ := h2.cap c hc
        rcases r with ⟨z1, z2⟩ | ⟨y, hy, z1, z2, _⟩
        · rw [z1, z2]; exact ⟨fun _ => by decide, fun _ => rfl⟩
        · rw [z1, z2]; exact ⟨fun z => absurd (nI_pos' (show y < 2 ^ 31 by omega)) (by rw [z]; decide), fun z => absurd z (nI_pos (by omega))⟩
      have w0 := w 0 (by decide)
      have w1 := w 1 (by decide)
      have h3 : RG T sn (k_told1 G (nI k) (nI a)) (z_tell1 M.2.1 k (nI a)) := by
        unfold k_told1 z_tell1
        rw [cix_nI hk]
        by_cases v : cF (sK G k 1 (nI a)) 0 1 = -9 ∨ cF (sK G k 1 (nI a)) 1 1 = -9
        · rw [if_pos v, if_pos (v.elim (fun z => Or.inl (w0.mp z)) (fun z => Or.inr (w1.mp z)))]
          exact h2
        · rw [if_neg v, if_neg (fun z => v (z.elim (fun z => Or.inl (w0.mpr z)) (fun z => Or.inr (w1.mpr z))))]
          exact h2.begin (fun z => v (Or.inl z)) (fun z => v (Or.inr z))
      refine SIM.ok h3 (fun j hj => ?_) h3.told (z_told_ge _) m
      unfold z_tell1
      split
      · exact pk_un (by omega)
      · rw [z_beg_hi _ (by omega)]; exact pk_un (by omega)
  · rw [if_neg q, if_neg (show ¬ ((0 ≤ c ∧ c ≤ 1) ∧ 0 ≤ x ∧ x ≤ 5) from fun z => q ⟨(two_r c).mpr z.1, (six_r x).mpr z.2⟩)]
    exact SIM.err h (by decide) m
end TI
