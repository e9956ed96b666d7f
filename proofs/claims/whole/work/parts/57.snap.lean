/-! THE TIE: snapshots, undo, text -/
theorem take_fin : ∀ a b k : Fin 2, nI (a.1 + 2 * b.1) ||| 1 <<< (nI k.1 &&& 31) = nI ((if k.1 = 0 then 1 else a.1) + 2 * (if k.1 = 0 then b.1 else 1)) ∧ (nI (a.1 + 2 * b.1) >>> (nI k.1 &&& 31) &&& 1 = 0 ↔ (if k.1 = 0 then a.1 else b.1) = 0) := by decide +kernel
section TP
variable {T : Nat} {C : Cm} {M : Mm}
theorem RS.turn {S : Sm} {s : Nat → Int32} (h : RS T S s) (hT : T < 2 ^ 30) : S.1.1 0 = s 0 ∧ 0 ≤ s 0 := by
  obtain ⟨⟨sn, hG⟩, _⟩ := h
  refine ⟨hG.s0.symm, ?_⟩
  rw [hG.s0]
  exact hG.tB.ge (by omega)
theorem tie_take (hT : T < 2 ^ 30) (h : RC T C M) (x : Int32) : (s_fill C.1 x).1 = (zw_take M C.2.1 x).1 ∧ RC T (cact C (s_fill C.1 x).1 (s_fill C.1 x).2) (zw_take M C.2.1 x).2 := by
  unfold s_fill zw_take
  by_cases q : 0 ≤ x ∧ x ≤ 1
  · obtain ⟨k, hk, rfl⟩ := ge0 (n := 1) q.1 (by decide) q.2
    rw [if_pos q, if_pos q, nI_clamp (show k < 2 ^ 31 by omega)]
    have ht := h.1.turn hT
    have hz : z_act M C.2.1 = z_rec M C.2.1 := if_pos h.2.2.2.2.2.2.2
    have lo : ∀ j, j < 181 → z_tk (upd M.2.1 (181 + k) 1) k 181 j = M.2.1 j := fun j hj => by
      unfold z_tk
      rw [if_neg (by omega), pk_un (by omega)]
    have e1 : C.1.1.1 0 = z_tk (upd M.2.1 (181 + k) 1) k 181 0 := by rw [lo 0 (by decide)]; exact ht.1
    have h0 : (nI k = 0) ↔ k = 0 := by rw [show (0 : Int32) = nI 0 from rfl, nI_eq (by omega) (by decide)]
    have hS : RS T (C.1.1, if nI k = 0 then C.1.1 else C.1.2.1, if nI k = 0 then C.1.2.2.1 else C.1.1, C.1.2.2.2 ||| 1 <<< (nI k &&& 31)) (z_tk (upd M.2.1 (181 + k) 1) k 181) := by
      obtain ⟨⟨sn, hG⟩, ⟨b0, b1, a1, a2, a3, a4, a5, a6, a7⟩, c1, c2⟩ := h.1
      have me : ∃ sn, RG T sn C.1.1 (fun j => z_tk (upd M.2.1 (181 + k) 1) k 181 (183 + 181 * k + j)) := ⟨sn, hG.ext (fun j hj => by
        show z_tk (upd M.2.1 (181 + k) 1) k 181 (183 + 181 * k + j) = M.2.1 j
        unfold z_tk
        rw [if_pos (by omega), pk_un (by omega), show 183 + 181 * k + j - (183 + 181 * k) = j by omega])⟩
      refine ⟨⟨sn, hG.ext lo⟩, ⟨if k = 0 then 1 else b0, if k = 0 then b1 else 1, by split <;> omega, by split <;> omega, ?_, ?_, ?_, ?_, ?_⟩, ?_, ?_⟩
      · unfold z_tk
        rw [if_neg (by omega)]
        by_cases c : k = 0
        · subst c; rw [if_pos rfl]; exact pk_us
        · rw [if_neg c, pk_un (by omega)]; exact a3
      · unfold z_tk
        rw [if_neg (by omega)]
        by_cases c : k = 0
        · subst c; rw [if_pos rfl, pk_un (by decide)]; exact a4
        · have : k = 1 := by omega
          subst this
          rw [if_neg (by decide)]; exact pk_us
      · show C.1.2.2.2 ||| 1 <<< (nI k &&& 31) = _
        rw [a5]
        exact (take_fin ⟨b0, a1⟩ ⟨b1, a2⟩ ⟨k, by omega⟩).1
      · intro hb
        by_cases c : k = 0
        · subst c; exact me
        · show ∃ sn, RG T sn (if nI k = 0 then C.1.1 else C.1.2.1) _
          rw [if_neg (fun z => c (h0.mp z))]
          rw [if_neg c] at hb
          obtain ⟨n, q⟩ := a6 hb
          refine ⟨n, q.ext (fun j hj => ?_)⟩
          show z_tk (upd M.2.1 (181 + k) 1) k 181 (183 + j) = M.2.1 (183 + j)
          unfold z_tk
          rw [if_neg (by omega), pk_un (by omega)]
      · intro hb
        by_cases c : k = 0
        · subst c
          rw [if_pos rfl] at hb
          obtain ⟨n, q⟩ := a7 hb
          refine ⟨n, q.ext (fun j hj => ?_)⟩
          show z_tk (upd M.2.1 (181 + 0) 1) 0 181 (364 + j) = M.2.1 (364 + j)
          unfold z_tk
          rw [if_neg (by omega), pk_un (by omega)]
        · have : k = 1 := by omega
          subst this
          exact me
      · by_cases c : k = 0
        · show bz (if nI k = 0 then C.1.1 else C.1.2.1)
          rw [if_pos (h0.mpr c)]; exact hG.mv
        · show bz (if nI k = 0 then C.1.1 else C.1.2.1)
          rw [if_neg (fun z => c (h0.mp z))]; exact c1
      · by_cases c : k = 0
        · show bz (if nI k = 0 then C.1.2.2.1 else C.1.1)
          rw [if_pos (h0.mpr c)]; exact c2
        · show bz (if nI k = 0 then C.1.2.2.1 else C.1.1)
          rw [if_neg (fun z => c (h0.mp z))]; exact hG.mv
    refine ⟨e1, ?_⟩
    rw [hz]
    exact h.push hS (by rw [ht.1]; exact ht.2)
  · rw [if_neg q, if_neg q]
    refine ⟨rfl, ?_⟩
    unfold cact
    rw [if_neg (show ¬ (0 : Int32) ≤ -1 by decide)]
    exact h
theorem tie_restore (hT : T < 2 ^ 30) (h : RC T C M) (x : Int32) : (s_resume C.1 x).1 = (zw_rest M C.2.1 x).1 ∧ RC T (cact C (s_resume C.1 x).1 (s_resume C.1 x).2) (zw_rest M C.2.1 x).2 := by
  unfold s_resume zw_rest
  by_cases q : 0 ≤ x ∧ x ≤ 1
  · obtain ⟨k, hk, rfl⟩ := ge0 (n := 1) q.1 (by decide) q.2
    rw [if_pos q, if_pos q, nI_clamp (show k < 2 ^ 31 by omega)]
    have h1 := h.1
    obtain ⟨⟨sn, hG⟩, ⟨b0, b1, a1, a2, a3, a4, a5, a6, a7⟩, c1, c2⟩ := h1
    have bit : (C.1.2.2.2 >>> (nI k &&& 31) &&& 1 = 0 ↔ M.2.1 (181 + k) = 0) := by
      rw [a5, (take_fin ⟨b0, a1⟩ ⟨b1, a2⟩ ⟨k, by omega⟩).2]
      rcases (by omega : k = 0 ∨ k = 1) with rfl | rfl
      · rw [if_pos rfl, show M.2.1 (181 + 0) = nI b0 from a3, show (0 : Int32) = nI 0 from rfl, nI_eq (by omega) (by decide)]
      · rw [if_neg (show ¬ (1 : Nat) = 0 by decide), show M.2.1 (181 + 1) = nI b1 from a4, show (0 : Int32) = nI 0 from rfl, nI_eq (by omega) (by decide)]
    by_cases c : C.1.2.2.2 >>> (nI k &&& 31) &&& 1 = 0
    · rw [if_pos c, if_pos (bit.mp c)]
      refine ⟨rfl, ?_⟩
      unfold cact
      rw [if_neg (show ¬ (0 : Int32) ≤ -2 by decide)]
      exact h
    · rw [if_neg c, if_neg (fun z => c (bit.mpr z))]
      have hz : z_act M C.2.1 = z_rec M C.2.1 := if_pos h.2.2.2.2.2.2.2
      have hslot : ∃ n, RG T n (sv C.1 (nI k)) (fun j => M.2.1 (183 + 181 * k + j)) := by
        rw [a5, (take_fin ⟨b0, a1⟩ ⟨b1, a2⟩ ⟨k, by omega⟩).2] at c
        rcases (by omega : k = 0 ∨ k = 1) with rfl | rfl
        · rw [if_pos rfl] at c
          exact a6 (show b0 = 1 by have : ¬ b0 = 0 := c; omega)
        · rw [if_neg (show ¬ (1 : Nat) = 0 by decide)] at c
          exact a7 (show b1 = 1 by have : ¬ b1 = 0 := c; omega)
      have lo : ∀ j, j < 181 → z_rs2 M.2.1 k 181 j = M.2.1 (183 + 181 * k + j) := fun j hj => if_pos hj
      have hi : ∀ j, 181 ≤ j → z_rs2 M.2.1 k 181 j = M.2.1 j := fun j hj => if_neg (by omega)
      have hS : RS T (sv C.1 (nI k), C.1.2) (z_rs2 M.2.1 k 181) := by
        obtain ⟨n, q⟩ := hslot
        exact h.1.game ⟨n, q.ext lo⟩ hi
      have ht := hS.turn hT
      refine ⟨ht.1, ?_⟩
      rw [hz]
      exact h.push hS (by rw [show (sv C.1 (nI k)).1 0 = z_rs2 M.2.1 k 181 0 from ht.1]; exact ht.2)
  · rw [if_neg q, if_neg q]
    refine ⟨rfl, ?_⟩
    unfold cact
    rw [if_neg (show ¬ (0 : Int32) ≤ -1 by decide)]
    exact h
theorem tie_undo (h : RC T C M) : (cundo C).1 = (zw_undo M C.2.1).1 ∧ RC T (cundo C).2 (zw_undo M C.2.1).2 := by
  unfold cundo zw_undo
  by_cases c : C.2.1 = 0
  · rw [if_pos c, if_pos c]
    exact ⟨rfl, h⟩
  · rw [if_neg c, if_neg c]
    obtain ⟨h1, h2, h3, h4, h5, h6, h7, h8⟩ := h
    refine ⟨rfl, (h4 0 (Nat.pos_of_ne_zero c)).ext (fun k hk => ?_), by show C.2.1 - 1 ≤ 6; omega, rfl, fun j hj => ?_, h5, h6, h7, h8⟩
    · show z_un M.2.2.1 M.2.1 (C.2.1 - 1) 545 k = M.2.2.1 (545 * (C.2.1 - 1 - 0) + k)
      unfold z_un
      rw [if_pos hk, Nat.sub_zero]
    · have hj : j < C.2.1 - 1 := hj
      have q := h4 (j + 1) (by omega)
      rw [show C.2.1 - 1 - (j + 1) = C.2.1 - 1 - 1 - j by omega] at q
      exact q
theorem tie_append (h : RC T C M) (x : Int32) : (capp C x).1 = (zw_app M C.2.2.2.2 x).1 ∧ RC T (capp C x).2 (zw_app M C.2.2.2.2 x).2 := by
  unfold capp zw_app
  by_cases q : 1 ≤ x ∧ x ≤ 255
  · rw [if_pos q, if_pos q]
    obtain ⟨h1, h2, h3, h4, h5, h6, h7, h8⟩ := h
    by_cases c : C.2.2.2.2 < 100
    · rw [if_pos c, if_neg (by omega)]
      refine ⟨rfl, h1, h2, h3, h4, by show C.2.2.2.2 + 1 ≤ 100; omega, rfl, ?_, h8⟩
      show upd M.2.2.2.1 C.2.2.2.2 x = upd C.2.2.2.1 C.2.2.2.2 x
      rw [h7]
    · rw [if_neg c, if_pos (by omega)]
      exact ⟨rfl, h1, h2, h3, h4, h5, h6, h7, h8⟩
  · rw [if_neg q, if_neg q]
    exact ⟨rfl, h⟩
theorem tie_clear (h : RC T C M) : (cclear C).1 = M.1 4 ∧ RC T (cclear C).2 (fM M 4 0) := by
  obtain ⟨h1, h2, h3, h4, h5, h6, h7, h8⟩ := h
  exact ⟨h6.symm, h1, h2, h3, h4, Nat.zero_le _, rfl, h7, h8⟩
end TP
/-! orders -/
section TQ
variable {T sn : Nat} {G : Gm} {s : Nat → Int32}
theorem obey_tie (hT : T < 2 ^ 29) (h : RG T sn G s) (q : Nat → Int32) : (k_obey G q).1 = (zso s (q 0) (fun j => q (j + 1))).1 ∧ (∃ n, RG (T + 1) n (k_obey G q).2 (zso s (q 0) (fun j => q (j + 1))).2) ∧ ∀ j, 181 ≤ j → (zso s (q 0) (fun j => q (j + 1))).2 j = s j := by
  have hn := h.n
  have h2 : RG T sn G (Mr s).2.1 := h
  unfold zso
  rw [h.s10, nI_clamp (show sn < 2 ^ 31 by omega)]
  have up : ∀ {r : Int32 × Gm} {z : Int32 × Mm}, SIM T r (Mr s) 0 z → r.1 = z.1 ∧ (∃ n, RG (T + 1) n r.2 z.2.2.1) ∧ ∀ j, 181 ≤ j → z.2.2.1 j = s j := fun w => ⟨w.1, w.2.1.elim fun n q => ⟨n, q.mono (Nat.le_succ T)⟩, w.2.2.1⟩
  unfold k_obey z_obey
  by_cases c1 : q 0 = 116
  · rw [if_pos c1, if_pos c1]; exact up (sim_tell h2 0 _ _)
  · rw [if_neg c1, if_neg c1]
    by_cases c2 : q 0 = 115
    · rw [if_pos c2, if_pos c2]; exact up (sim_sail h2 0 _ _)
    · rw [if_neg c2, if_neg c2]
      by_cases c3 : q 0 = 102
      · rw [if_pos c3, if_pos c3]; exact up (sim_fire hT h2 0 _ _ _)
      · rw [if_neg c3, if_neg c3]
        by_cases c4 : q 0 = 103
        · rw [if_pos c4, if_pos c4]; exact up (sim_grap h2 0 _ _)
        · rw [if_neg c4, if_neg c4]
          by_cases c5 : q 0 = 120
          · rw [if_pos c5, if_pos c5]; exact up (sim_cut h2 0 _)
          · rw [if_neg c5, if_neg c5]
            by_cases c6 : q 0 = 114
            · rw [if_pos c6, if_pos c6]; exact up (sim_rep h2 0 _ _)
            · rw [if_neg c6, if_neg c6]
              have w := sim_end hT h2 0
              exact ⟨w.1, w.2.1, w.2.2.1⟩
theorem crun_tie {t : Nat → Int32} {m : Nat} (hm : m ≤ 100) : ∀ (K k a d T : Nat) (G : Gm) (s : Nat → Int32), T + K < 2 ^ 29 → a ≤ m → m < a + K → m < a + 2 * k → (pfault (sg t m) m K a zq).1 = -1 → (∃ sn, RG T sn G s) → (crun (sg t m) k a G d).1 = (zrun (sg t m) m K a s d).1 ∧ (∃ sn, RG (T + K) sn (crun (sg t m) k a G d).2 (zrun (sg t m) m K a s d).2) ∧ ∀ j, 181 ≤ j → (zrun (sg t m) m K a s d).2 j = s j
  | 0, k, a, d, T, G, s, _, ha, hK, _, _, _ => by omega
  | K + 1, 0, a, d, T, G, s, _, ha, _, hk, _, _ => by omega
  | K + 1, k + 1, a, d, T, G, s, hT, ha, hK, hk, hf, ⟨sn, h⟩ => by
    obtain ⟨hok, hnx⟩ := pf_ok hm ha hf
    obtain ⟨hin, hgo⟩ := pord_in t m a zq ha
    have hlt := (hgo hok.1).1
    obtain ⟨o1, ⟨n1, o2⟩, o3⟩ := obey_tie (by omega) h (pord (sg t m) a zq).2.2
    rw [pord_0] at o1 o2 o3
    rw [crun_s, zrun_s, if_pos hok.1]
    by_cases c : (k_obey G (pord (sg t m) a zq).2.2).1 < 0
    · rw [if_pos c, if_pos (by rw [← o1]; exact c)]
      exact ⟨rfl, ⟨n1, o2.mono (by omega)⟩, o3⟩
    · rw [if_neg c, if_neg (show ¬ (zso s (sg t m a) (fun j => (pord (sg t m) a zq).2.2 (j + 1))).1 < 0 by rw [← o1]; exact c)]
      by_cases e : (pord (sg t m) a zq).2.1 + 1 ≤ m
      · have h59 := hok.2.resolve_left (by omega)
        rw [if_pos e, if_pos h59]
        obtain ⟨r1, ⟨n2, r2⟩, r3⟩ := crun_tie hm K k ((pord (sg t m) a zq).2.1 + 1) (d + 1) (T + 1) _ _ (by omega) e (by omega) (by omega) (hnx e) ⟨n1, o2⟩
        exact ⟨r1, ⟨n2, r2.mono (by omega)⟩, fun j hj => (r3 j hj).trans (o3 j hj)⟩
      · have hm2 : (pord (sg t m) a zq).2.1 = m := by omega
        have hcm : sg t m m = -1 := if_neg (Nat.lt_irrefl m)
        rw [if_neg e, hm2, hcm, if_neg (by decide)]
        have hend : ∀ k G d, crun (sg t m) k m G d = (d, G) := fun k G d => by
          cases k with
          | zero => rfl
          | succ k =>
            have : (pord (sg t m) m zq).1 = false := by
              unfold pord
              rw [hcm, if_pos (by decide)]
            rw [crun_s, if_neg (by rw [this]; exact Bool.false_ne_true)]
        rw [hend]
        exact ⟨rfl, ⟨n1, o2.mono (by omega)⟩, o3⟩
theorem tie_carry {C : Cm} {M : Mm} (hT : T + 101 < 2 ^ 29) (h : RC T C M) : (ccarry C).1 = (zcarry M C.2.1 C.2.2.2.2).1 ∧ RC (T + 101) (ccarry C).2 (zcarry M C.2.1 C.2.2.2.2).2 := by
  unfold ccarry zcarry
  have ef : cfault C = (pfault (sg M.2.2.2.1 C.2.2.2.2) C.2.2.2.2 101 0 zq).1 := by
    unfold cfault
    rw [h.2.2.2.2.2.2.1]
  rw [← ef]
  by_cases c : cfault C = -1
  · rw [if_pos c, if_pos c]
    rw [ef] at c
    obtain ⟨sn, hG⟩ := h.1.1
    obtain ⟨r1, r2, r3⟩ := crun_tie (t := M.2.2.2.1) h.2.2.2.2.1 101 100 0 0 T C.1.1 M.2.1 (by omega) (Nat.zero_le _) (by have := h.2.2.2.2.1; omega) (by have := h.2.2.2.2.1; omega) c ⟨sn, hG⟩
    unfold crunC
    rw [← h.2.2.2.2.2.2.1]
    refine ⟨congrArg nI r1, ?_⟩
    have h' := h.mono (Nat.le_add_right T 101)
    have hd : ∀ (K a : Nat) (s : Nat → Int32) (d : Nat), (zrun (sg M.2.2.2.1 C.2.2.2.2) C.2.2.2.2 K a s d).1 ≤ d + K := fun K => by
      induction K with
      | zero => exact fun a s d => Nat.le_refl _
      | succ K ih =>
        intro a s d
        rw [zrun_s]
        split
        · exact Nat.le_add_right _ _
        · split
          · exact Nat.le_trans (ih _ _ _) (by omega)
          · show d + 1 ≤ d + (K + 1); omega
    have hS : RS (T + 101) ((crun (sg M.2.2.2.1 C.2.2.2.2) 100 0 C.1.1 0).2, C.1.2) (zrun (sg M.2.2.2.1 C.2.2.2.2) C.2.2.2.2 101 0 M.2.1 0).2 := h'.1.game r2 r3
    have hp := h'.push hS (v := nI (crun (sg M.2.2.2.1 C.2.2.2.2) 100 0 C.1.1 0).1) (nI_pos' (by rw [r1]; have := hd 101 0 M.2.1 0; omega))
    have hv : 0 ≤ nI (crun (sg M.2.2.2.1 C.2.2.2.2) 100 0 C.1.1 0).1 := nI_pos' (by rw [r1]; have := hd 101 0 M.2.1 0; omega)
    unfold cact at hp ⊢
    rw [if_pos hv] at hp ⊢
    obtain ⟨g1, g2, g3, g4, g5, g6, g7, g8⟩ := hp
    exact ⟨g1, g2, g3, g4, Nat.zero_le _, rfl, g7.trans h.2.2.2.2.2.2.1.symm, rfl⟩
  · rw [if_neg c, if_neg c]
    exact ⟨rfl, h.mono (Nat.le_add_right T 101)⟩
end TQ
