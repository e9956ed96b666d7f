/-! THE END OF A TURN: fights -/
section EV
variable {sn T : Nat} {G : Gm}
theorem eg_ext {G H : Gm} {j : Nat} (e4 : shF H j 4 = shF G j 4) (e5 : shF H j 5 = shF G j 5) (e6 : shF H j 6 = shF G j 6) (e7 : shF H j 7 = shF G j 7) : eg H j = eg G j := by
  unfold eg hv
  rw [e4, e5, e6, e7]
theorem eg_two {G H : Gm} {u v : Nat} (huv : u ≠ v) (hu : u < 8) (hv8 : v < 8) (fu : ¬ shF G u 4 = 0) (fv : ¬ shF G v 4 = 0) (ha : ∀ x k, x < 8 → x ≠ u → x ≠ v → k ≠ 8 → shF H x k = shF G x k) (ho : ∀ x k, x < 8 → k ≠ 1 → k ≠ 6 → k ≠ 8 → shF H x k = shF G x k) (hc : hv H u 6 + hv H v 6 ≤ hv G u 6 + hv G v 6) : sm (eg H) 8 ≤ sm (eg G) 8 := by
  have q : ∀ n, n ≤ 8 → sm (eg H) n + (if u < n then eg G u else 0) + (if v < n then eg G v else 0) = sm (eg G) n + (if u < n then eg H u else 0) + (if v < n then eg H v else 0) := fun n hn => by
    have e : ∀ m, m ≤ 8 → sm (eg H) m = sm (fun j => if j < 8 then eg H j else eg G j) m := fun m => by
      induction m with
      | zero => intro _; rfl
      | succ m ih => intro hm; rw [sm_s, sm_s, ih (by omega), if_pos (by omega)]
    have := sm_two (g1 := fun j => if j < 8 then eg H j else eg G j) (g2 := eg G) huv (fun j j1 j2 => by
      split
      · rename_i j8
        exact eg_ext (ha j 4 j8 j1 j2 (by decide)) (ha j 5 j8 j1 j2 (by decide)) (ha j 6 j8 j1 j2 (by decide)) (ha j 7 j8 j1 j2 (by decide))
      · rfl) n
    rw [← e n hn] at this
    rw [if_pos hu, if_pos hv8] at this
    exact this
  have q8 := q 8 (Nat.le_refl _)
  rw [if_pos hu, if_pos hv8, if_pos hu, if_pos hv8] at q8
  have eu : eg H u = 6 * hv G u 4 + 4 * hv H u 6 + hv G u 7 * hv G u 5 := by
    unfold eg
    rw [ho u 4 hu (by decide) (by decide) (by decide), if_neg fu]
    unfold hv
    rw [ho u 4 hu (by decide) (by decide) (by decide), ho u 5 hu (by decide) (by decide) (by decide), ho u 7 hu (by decide) (by decide) (by decide)]
  have ev : eg H v = 6 * hv G v 4 + 4 * hv H v 6 + hv G v 7 * hv G v 5 := by
    unfold eg
    rw [ho v 4 hv8 (by decide) (by decide) (by decide), if_neg fv]
    unfold hv
    rw [ho v 4 hv8 (by decide) (by decide) (by decide), ho v 5 hv8 (by decide) (by decide) (by decide), ho v 7 hv8 (by decide) (by decide) (by decide)]
  have gu : eg G u = 6 * hv G u 4 + 4 * hv G u 6 + hv G u 7 * hv G u 5 := if_neg fu
  have gv : eg G v = 6 * hv G v 4 + 4 * hv G v 6 + hv G v 7 * hv G v 5 := if_neg fv
  rw [eu, ev, gu, gv] at q8
  omega
/-- what a fight leaves: K, and who is grappled in it is so no more -/
theorem fin_rel (h : Inv sn T G) {u v : Nat} (hu : u < sn) (hv : v < sn) (e8 : shF G u 8 = nI v) (e8v : shF G v 8 = nI u) {K : Gm} (k1 : ∀ k, k ≠ 5 → K.1 k = G.1 k) (k2 : K.2.1 = G.2.1) (ko : ∀ x k, k ≠ 1 → k ≠ 6 → shF K x k = shF G x k) (ka : ∀ x k, x ≠ u → x ≠ v → shF K x k = shF G x k) (kc : ∀ x, x = u ∨ x = v → nB (shF K x 1) 2 ∧ nB (shF K x 6) 41) : Inv sn T (k_rel K u) ∧ (∀ k, k ≠ 5 → (k_rel K u).1 k = G.1 k) ∧ ∀ x, x < 8 → ∀ k, k ≠ 8 → shF (k_rel K u) x k = shF K x k := by
  have hn := h.n
  have o8 : ∀ x, shF K x 8 = shF G x 8 := fun x => ko x 8 (by decide) (by decide)
  have o4 : ∀ x, shF K x 4 = shF G x 4 := fun x => ko x 4 (by decide) (by decide)
  have o2 : ∀ x, shF K x 2 = shF G x 2 := fun x => ko x 2 (by decide) (by decide)
  have hG : IvG sn T K := h.1.ext (fun k z _ => k1 k z) k2
  have p0 : P0 sn K := fun i hi => by rw [o8]; exact (h.p0 i hi).elim Or.inl (fun ⟨j, z1, z2, z3⟩ => Or.inr ⟨j, z1, z2, by rw [o8]; exact z3⟩)
  obtain ⟨r1, r2, r3⟩ := rel_f hn hG.2.1 p0 (show u < 8 by omega)
  have ro : ∀ a, a < 8 → ∀ k, k ≠ 8 → shF (k_rel K u) a k = shF K a k := fun a ha k hk => by rw [r1 a ha, if_neg (fun z => hk z.1)]
  refine ⟨⟨hG.ext (fun k _ _ => by rw [r2]) r3, ⟨fun a a8 => ?_, fun a s1 s2 => ⟨by rw [ro a s2 4 (by decide), o4]; exact (h.ub s1 s2).1, ?_⟩⟩, h.2.2.1.sub (fun a a8 z => by rw [ro a a8 4 (by decide), o4] at z; exact z) (fun a a8 _ => by rw [ro a a8 2 (by decide), o2]) (by rw [r3]; exact k2), IvP_rel h (v := u) (by omega) (fun a a8 => ?_) (fun a a8 n1 n2 => ?_) (fun a a8 _ => by rw [ro a a8 4 (by decide), o4])⟩, fun k z => by rw [r2]; exact k1 k z, ro⟩
  · have hs := h.sh a8
    unfold Sh at hs ⊢
    rw [ro a a8 1 (by decide), ro a a8 2 (by decide), ro a a8 3 (by decide), ro a a8 4 (by decide), ro a a8 5 (by decide), ro a a8 6 (by decide), ro a a8 7 (by decide), ro a a8 11 (by decide), o2, o4, ko a 3 (by decide) (by decide), ko a 5 (by decide) (by decide), ko a 7 (by decide) (by decide), ko a 11 (by decide) (by decide)]
    by_cases e : a = u ∨ a = v
    · exact ⟨(kc a e).1, hs.2.1, hs.2.2.1, hs.2.2.2.1, hs.2.2.2.2.1, (kc a e).2, hs.2.2.2.2.2.2⟩
    · rw [ka a 1 (fun z => e (Or.inl z)) (fun z => e (Or.inr z)), ka a 6 (fun z => e (Or.inl z)) (fun z => e (Or.inr z))]
      exact hs
  · rw [r1 a s2, o8]
    split
    · rfl
    · exact (h.ub s1 s2).2
  · rw [r1 a a8, o8]
    by_cases e : a = u ∨ shF G a 8 = nI u
    · rw [if_pos ⟨rfl, e⟩, if_pos e]
    · rw [if_neg (fun z => e z.2), if_neg e]
  · rw [ro a a8 1 (by decide)]
    exact ka a 1 n1 (fun z => n2 (by rw [z]; exact e8v))
theorem capt_f (G : Gm) {w p : Nat} (hwp : w ≠ p) : (∀ a k, shF (k_capt G w p) a k = if a = p ∧ k = 1 then shF G w 1 else if a = p ∧ k = 6 then shF G p 6 + shF G w 6 / 2 else if a = w ∧ k = 6 then shF G w 6 - shF G w 6 / 2 else shF G a k) ∧ (∀ k, k ≠ 5 → (k_capt G w p).1 k = G.1 k) ∧ (k_capt G w p).2.1 = G.2.1 := by
  refine ⟨fun a k => ?_, fun k hk => ?_, rfl⟩
  · unfold k_capt
    dsimp only
    rw [show ∀ (X : Gm) (y : Int32), shF (sG X 5 y) a k = shF X a k from fun _ _ => rfl, shv_1, shv_6 _ p _ a k, shv_6 _ w _ a k, shv_6 _ p _ w 1, if_neg (show ¬ (w = p ∧ 1 = 6) from fun z => hwp z.1), shv_6 _ w _ w 1, if_neg (show ¬ (w = w ∧ 1 = 6) from fun z => absurd z.2 (by decide)), shv_6 _ w _ p 6, if_neg (show ¬ (p = w ∧ 6 = 6) from fun z => hwp z.1.symm)]
  · unfold k_capt
    dsimp only
    exact pk_un hk
theorem fgt1_f (h : Inv sn T G) {u v : Nat} (huv : u ≠ v) (hu : u < 8) (hv8 : v < 8) : (∀ a k, shF (k_fgt1 G u v) a k = if a = v ∧ k = 6 then nI (hv G v 6 - (hv G u 6 + 3) / 4) else if a = u ∧ k = 6 then nI (hv G u 6 - (hv G v 6 + 3) / 4) else shF G a k) ∧ (k_fgt1 G u v).1 = G.1 ∧ (k_fgt1 G u v).2.1 = G.2.1 := by
  have vu := h.v6 hu
  have vv := h.v6 hv8
  refine ⟨fun a k => ?_, rfl, rfl⟩
  unfold k_fgt1
  dsimp only
  rw [shv_6 _ v _ a k, shv_6 _ u _ a k, shv_6 _ u _ v 6, if_neg (show ¬ (v = u ∧ 6 = 6) from fun z => huv z.1.symm), vu.1, vv.1, show (3 : Int32) = nI 3 from rfl, show (4 : Int32) = nI 4 from rfl, nI_add, nI_add, pk_div (by omega) (by decide) (by decide), pk_div (by omega) (by decide) (by decide), kmax_sub (by omega) (by omega), kmax_sub (by omega) (by omega)]
theorem Inv.fight (h : Inv sn T G) {u v : Nat} (hu : u < sn) (hv8 : v < sn) (huv : u ≠ v) (e8 : shF G u 8 = nI v) (e8v : shF G v 8 = nI u) (fu : ¬ shF G u 4 = 0) (fv : ¬ shF G v 4 = 0) : Inv sn T (k_fight G u v) ∧ (∀ k, k ≠ 5 → (k_fight G u v).1 k = G.1 k) ∧ sm (eg (k_fight G u v)) 8 ≤ sm (eg G) 8 := by
  have hn := h.n
  have vu := h.v6 (i := u) (by omega)
  have vv := h.v6 (i := v) (by omega)
  obtain ⟨f1, f2, f3⟩ := fgt1_f h huv (by omega) (by omega)
  generalize ha' : hv G u 6 - (hv G v 6 + 3) / 4 = a' at f1
  generalize hb' : hv G v 6 - (hv G u 6 + 3) / 4 = b' at f1
  unfold k_fight
  generalize k_fgt1 G u v = F at f1 f2 f3
  have fo : ∀ x k, k ≠ 1 → k ≠ 6 → shF F x k = shF G x k := fun x k _ z => by rw [f1, if_neg (fun y => z y.2), if_neg (fun y => z y.2)]
  have f_1 : ∀ x, shF F x 1 = shF G x 1 := fun x => by rw [f1, if_neg (fun y => absurd y.2 (by decide)), if_neg (fun y => absurd y.2 (by decide))]
  have fa : ∀ x k, x ≠ u → x ≠ v → shF F x k = shF G x k := fun x k z1 z2 => by rw [f1, if_neg (fun y => z2 y.1), if_neg (fun y => z1 y.1)]
  have f6u : shF F u 6 = nI a' := by rw [f1, if_neg (fun y => huv y.1), if_pos ⟨rfl, rfl⟩]
  have f6v : shF F v 6 = nI b' := by rw [f1, if_pos ⟨rfl, rfl⟩]
  -- any K with crews cu, cv
  have fin : ∀ K : Gm, (∀ k, k ≠ 5 → K.1 k = G.1 k) → K.2.1 = G.2.1 → (∀ x k, k ≠ 1 → k ≠ 6 → shF K x k = shF G x k) → (∀ x k, x ≠ u → x ≠ v → shF K x k = shF G x k) → (∀ x, x = u ∨ x = v → nB (shF K x 1) 2) → ∀ cu cv : Nat, shF K u 6 = nI cu → shF K v 6 = nI cv → cu < 41 → cv < 41 → cu + cv ≤ hv G u 6 + hv G v 6 → Inv sn T (k_rel K u) ∧ (∀ k, k ≠ 5 → (k_rel K u).1 k = G.1 k) ∧ sm (eg (k_rel K u)) 8 ≤ sm (eg G) 8 := fun K k1 k2 ko ka kc cu cv ku kv lu lv lc => by
    obtain ⟨g1, g2, g3⟩ := fin_rel h hu hv8 e8 e8v k1 k2 ko ka (fun x hx => ⟨kc x hx, hx.elim (fun z => by rw [z, ku]; exact ⟨cu, lu, rfl⟩) (fun z => by rw [z, kv]; exact ⟨cv, lv, rfl⟩)⟩)
    refine ⟨g1, g2, eg_two huv (by omega) (by omega) fu fv (fun x k x8 n1 n2 n3 => by rw [g3 x x8 k n3]; exact ka x k n1 n2) (fun x k x8 n1 n2 n3 => by rw [g3 x x8 k n3]; exact ko x k n1 n2) ?_⟩
    have eu : hv (k_rel K u) u 6 = cu := by unfold hv; rw [g3 u (by omega) 6 (by decide), ku, nI_clamp (by omega)]
    have ev : hv (k_rel K u) v 6 = cv := by unfold hv; rw [g3 v (by omega) 6 (by decide), kv, nI_clamp (by omega)]
    rw [eu, ev]; exact lc
  have la : a' ≤ hv G u 6 := by omega
  have lb : b' ≤ hv G v 6 := by omega
  have s1 := fun x (hx : x = u ∨ x = v) => show nB (shF G x 1) 2 from h.s1 (by rcases hx with z | z <;> omega)
  unfold k_fgt2
  rw [f6u, f6v]
  by_cases c1 : 0 < nI a'
  · rw [if_pos c1]
    by_cases c2 : 0 < nI b'
    · rw [if_pos c2]
      refine ⟨⟨h.1.ext (fun k _ _ => by rw [f2]) f3, ⟨fun a a8 => ?_, fun a z1 z2 => by rw [fo a 4 (by decide) (by decide), fo a 8 (by decide) (by decide)]; exact h.ub z1 z2⟩, h.2.2.1.sub (fun a _ z => by rw [fo a 4 (by decide) (by decide)] at z; exact z) (fun a _ _ => fo a 2 (by decide) (by decide)) f3, fun a a8 => ?_⟩, fun k _ => by rw [f2], eg_two huv (by omega) (by omega) fu fv (fun x k _ n1 n2 _ => fa x k n1 n2) (fun x k _ n1 n2 _ => fo x k n1 n2) ?_⟩
      · have hs := h.sh a8
        unfold Sh at hs ⊢
        rw [f_1, fo a 2 (by decide) (by decide), fo a 3 (by decide) (by decide), fo a 4 (by decide) (by decide), fo a 5 (by decide) (by decide), fo a 7 (by decide) (by decide), fo a 11 (by decide) (by decide), f1]
        refine ⟨hs.1, hs.2.1, hs.2.2.1, hs.2.2.2.1, hs.2.2.2.2.1, ?_, hs.2.2.2.2.2.2⟩
        split
        · exact ⟨b', by omega, rfl⟩
        · split
          · exact ⟨a', by omega, rfl⟩
          · exact hs.2.2.2.2.2.1
      · rcases h.pr a8 with z | ⟨j, z1, z2, z3, z4, z5⟩
        · exact Or.inl (by rw [fo a 8 (by decide) (by decide)]; exact z)
        · exact Or.inr ⟨j, z1, by rw [fo a 8 (by decide) (by decide)]; exact z2, by rw [fo j 8 (by decide) (by decide)]; exact z3, by rw [f_1, f_1]; exact z4, by rw [fo a 4 (by decide) (by decide)]; exact z5⟩
      · have eu : hv F u 6 = a' := by unfold hv; rw [f6u, nI_clamp (by omega)]
        have ev : hv F v 6 = b' := by unfold hv; rw [f6v, nI_clamp (by omega)]
        rw [eu, ev]; omega
    · rw [if_neg c2]
      have b0 : b' = 0 := Classical.byContradiction (fun z => c2 ((nI_ltI (a := 0) (by decide) (by omega)).mpr (by omega)))
      obtain ⟨t1, t2, t3⟩ := capt_f F huv
      refine fin _ (fun k z => by rw [t2 k z, f2]) (by rw [t3, f3]) (fun x k n1 n2 => by rw [t1, if_neg (fun y => n1 y.2), if_neg (fun y => n2 y.2), if_neg (fun y => n2 y.2)]; exact fo x k n1 n2) (fun x k n1 n2 => by rw [t1, if_neg (fun y => n2 y.1), if_neg (fun y => n2 y.1), if_neg (fun y => n1 y.1)]; exact fa x k n1 n2) (fun x hx => ?_) (a' - a' / 2) (b' + a' / 2) ?_ ?_ (by omega) (by omega) (by omega)
      · rw [t1, if_neg (fun y => absurd y.2 (by decide) : ¬ (x = v ∧ 1 = 6)), if_neg (fun y => absurd y.2 (by decide) : ¬ (x = u ∧ 1 = 6)), f_1, f_1]
        split
        · exact s1 u (Or.inl rfl)
        · exact s1 x hx
      · rw [t1, if_neg (fun y => huv y.1), if_neg (fun y => huv y.1), if_pos ⟨rfl, rfl⟩, f6u, show (2 : Int32) = nI 2 from rfl, pk_div (by omega) (by decide) (by decide), pk_sub (by omega)]
      · rw [t1, if_neg (fun y => absurd y.2 (by decide)), if_pos ⟨rfl, rfl⟩, f6u, f6v, show (2 : Int32) = nI 2 from rfl, pk_div (by omega) (by decide) (by decide), nI_add]
  · rw [if_neg c1]
    have a0 : a' = 0 := Classical.byContradiction (fun z => c1 ((nI_ltI (a := 0) (by decide) (by omega)).mpr (by omega)))
    by_cases c2 : 0 < nI b'
    · rw [if_pos c2]
      obtain ⟨t1, t2, t3⟩ := capt_f F (w := v) (p := u) (fun z => huv z.symm)
      refine fin _ (fun k z => by rw [t2 k z, f2]) (by rw [t3, f3]) (fun x k n1 n2 => by rw [t1, if_neg (fun y => n1 y.2), if_neg (fun y => n2 y.2), if_neg (fun y => n2 y.2)]; exact fo x k n1 n2) (fun x k n1 n2 => by rw [t1, if_neg (fun y => n1 y.1), if_neg (fun y => n1 y.1), if_neg (fun y => n2 y.1)]; exact fa x k n1 n2) (fun x hx => ?_) (a' + b' / 2) (b' - b' / 2) ?_ ?_ (by omega) (by omega) (by omega)
      · rw [t1, if_neg (fun y => absurd y.2 (by decide) : ¬ (x = u ∧ 1 = 6)), if_neg (fun y => absurd y.2 (by decide) : ¬ (x = v ∧ 1 = 6)), f_1, f_1]
        split
        · exact s1 v (Or.inr rfl)
        · exact s1 x hx
      · rw [t1, if_neg (fun y => absurd y.2 (by decide)), if_pos ⟨rfl, rfl⟩, f6u, f6v, show (2 : Int32) = nI 2 from rfl, pk_div (by omega) (by decide) (by decide), nI_add]
      · rw [t1, if_neg (fun y => huv y.1.symm), if_neg (fun y => huv y.1.symm), if_pos ⟨rfl, rfl⟩, f6v, show (2 : Int32) = nI 2 from rfl, pk_div (by omega) (by decide) (by decide), pk_sub (by omega)]
    · rw [if_neg c2]
      exact fin F (fun k _ => by rw [f2]) f3 fo fa (fun x hx => by rw [f_1]; exact s1 x hx) a' b' f6u f6v (by omega) (by omega) (by omega)
/-- all fights of a turn -/
theorem Inv.fights : ∀ (n i : Nat) (H : Gm), i + n = 8 → Inv sn T H → Inv sn T (kg k_f1 H i n) ∧ (∀ k, k ≠ 5 → (kg k_f1 H i n).1 k = H.1 k) ∧ sm (eg (kg k_f1 H i n)) 8 ≤ sm (eg H) 8
  | 0, i, H, _, h => ⟨h, fun _ _ => rfl, Nat.le_refl _⟩
  | n + 1, i, H, hi, h => by
    have hn := h.n
    have st : Inv sn T (k_f1 H i) ∧ (∀ k, k ≠ 5 → (k_f1 H i).1 k = H.1 k) ∧ sm (eg (k_f1 H i)) 8 ≤ sm (eg H) 8 := by
      unfold k_f1
      rcases h.pr (i := i) (by omega) with z | ⟨j, z1, z2, z3, z4, z5⟩
      · rw [z, kn_m9]; exact ⟨h, fun _ _ => rfl, Nat.le_refl _⟩
      · rw [z2, h.kn z1]
        dsimp only
        split
        · have hij : i ≠ j := fun y => z4 (by rw [y])
          have fj : ¬ shF H j 4 = 0 := by
            rcases h.pr (i := j) (by omega) with y | ⟨x, y1, y2, y3, y4, y5⟩
            · rw [y] at z3; exact absurd z3.symm (nI9 (by omega))
            · exact y5
          exact h.fight (h.lt (by omega) z5) z1 hij z2 z3 z5 fj
        · exact ⟨h, fun _ _ => rfl, Nat.le_refl _⟩
    obtain ⟨a1, a2, a3⟩ := Inv.fights n (i + 1) _ (by omega) st.1
    rw [kg_s]
    exact ⟨a1, fun k z => (a2 k z).trans (st.2.1 k z), Nat.le_trans a3 st.2.2⟩
theorem Inv.f2 (h : Inv sn T G) (i : Nat) : Inv sn T (k_f2 G i) ∧ (k_f2 G i).1 = G.1 ∧ sm (eg (k_f2 G i)) 8 ≤ sm (eg G) 8 := by
  have hk : ∀ a k, k ≠ 11 → shF (k_f2 G i) a k = shF G a k := fun a k z => by unfold k_f2; rw [shv_11, if_neg (fun y => z y.2)]
  refine ⟨⟨h.1.ext (fun k _ _ => rfl) rfl, ⟨fun a a8 => ?_, fun a z1 z2 => by rw [hk a 4 (by decide), hk a 8 (by decide)]; exact h.ub z1 z2⟩, h.2.2.1.sub (fun a _ z => by rw [hk a 4 (by decide)] at z; exact z) (fun a _ _ => hk a 2 (by decide)) rfl, fun a a8 => ?_⟩, rfl, sm_mono 8 (fun j _ => Nat.le_of_eq (eg_ext (hk j 4 (by decide)) (hk j 5 (by decide)) (hk j 6 (by decide)) (hk j 7 (by decide))))⟩
  · have hs := h.sh a8
    unfold Sh at hs ⊢
    rw [hk a 1 (by decide), hk a 2 (by decide), hk a 3 (by decide), hk a 4 (by decide), hk a 5 (by decide), hk a 6 (by decide), hk a 7 (by decide)]
    refine ⟨hs.1, hs.2.1, hs.2.2.1, hs.2.2.2.1, hs.2.2.2.2.1, hs.2.2.2.2.2.1, hs.2.2.2.2.2.2.1, ?_⟩
    unfold k_f2
    rw [shv_11]
    split
    · exact ⟨0, by decide, rfl⟩
    · exact hs.2.2.2.2.2.2.2
  · rcases h.pr a8 with z | ⟨j, z1, z2, z3, z4, z5⟩
    · exact Or.inl (by rw [hk a 8 (by decide)]; exact z)
    · exact Or.inr ⟨j, z1, by rw [hk a 8 (by decide)]; exact z2, by rw [hk j 8 (by decide)]; exact z3, by rw [hk j 1 (by decide), hk a 1 (by decide)]; exact z4, by rw [hk a 4 (by decide)]; exact z5⟩
theorem Inv.f2s : ∀ (n i : Nat) (H : Gm), Inv sn T H → Inv sn T (kg k_f2 H i n) ∧ (kg k_f2 H i n).1 = H.1 ∧ sm (eg (kg k_f2 H i n)) 8 ≤ sm (eg H) 8
  | 0, i, H, h => ⟨h, rfl, Nat.le_refl _⟩
  | n + 1, i, H, h => by
    obtain ⟨b1, b2, b3⟩ := h.f2 i
    obtain ⟨a1, a2, a3⟩ := Inv.f2s n (i + 1) _ b1
    rw [kg_s]
    exact ⟨a1, a2.trans b2, Nat.le_trans a3 b3⟩
theorem Inv.over (h : Inv sn T G) (ht : T + 1 ≤ 4) : Inv sn (T + 1) (k_turnover G) ∧ (k_turnover G).1 0 = nI (T + 1) ∧ (k_turnover G).1 1 = 0 ∧ sm (eg (k_turnover G)) 8 ≤ sm (eg G) 8 := by
  have e0 : (k_turnover G).1 0 = nI (T + 1) := by
    show G.1 0 + 1 = _
    rw [h.k0, show (1 : Int32) = nI 1 from rfl, nI_add]
  obtain ⟨b1, b2, b3, b4, b5, b6, b7, b8⟩ := h.1
  exact ⟨⟨⟨b1, b2, e0, ht, b5, b6, fun c hc => by rw [show cF (k_turnover G) c = cF G c from (cF_sG (by decide) c).trans (cF_sG (by decide) c)]; exact b7 c hc, b8⟩, h.2.1, h.2.2.1, h.2.2.2⟩, e0, rfl, Nat.le_refl _⟩
theorem Inv.end (h : Inv sn T G) (hm : G.1 1 = 1) (ht : T + 1 ≤ 4) : ∃ H, k_end G = (nI (T + 1), H) ∧ Inv sn (T + 1) H ∧ H.1 1 = 0 ∧ sm (eg H) 8 ≤ sm (eg G) 8 := by
  obtain ⟨a1, a2, a3⟩ := Inv.fights 8 0 G rfl h
  obtain ⟨b1, b2, b3⟩ := Inv.f2s 8 0 _ a1
  obtain ⟨c1, c2, c3, c4⟩ := b1.over ht
  refine ⟨k_turnover (kg k_f2 (kg k_f1 G 0 8) 0 8), ?_, c1, c3, Nat.le_trans c4 (Nat.le_trans b3 a3)⟩
  unfold k_end
  rw [if_neg (by rw [hm]; decide), c2]
end EV
