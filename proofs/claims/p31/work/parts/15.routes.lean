/-! ROUTES of the class: what is noted, in Nats -/
/-- by place its path; the queue; by hex its place; how many are queued -/
abbrev Bm : Type := (Nat → Option Nat) × (Nat → Nat) × (Nat → Option Nat) × Nat
def eo : Option Nat → Int32
  | none => -1
  | some p => nI p
theorem eo_up (f : Nat → Option Nat) (k p : Nat) : upd (fun j => eo (f j)) k (nI p) = fun j => eo (va_up f k (some p) j) := by
  funext j
  simp only [upd, va_up]
  split <;> rfl
theorem nI_up (f : Nat → Nat) (k p : Nat) : upd (fun j => nI (f j)) k (nI p) = fun j => nI (va_up f k p j) := by
  funext j
  simp only [upd, va_up]
  split <;> rfl
theorem eo_m1 {x : Option Nat} (h : ∀ p, x = some p → p < 2 ^ 31) : eo x = -1 ↔ x = none := by
  cases x with
  | none => exact ⟨fun _ => rfl, fun _ => rfl⟩
  | some p =>
    refine ⟨fun z => ?_, fun z => by cases z⟩
    have h1 := nI_pos' (h p rfl)
    rw [show nI p = -1 from z] at h1
    exact absurd h1 (by decide)
def RtAt (h : AH) (w : Nat) (B : Bm) : Prop := h.2 w = some (.inr (4, ob4 (fun k => w + 1 + k) (fun _ => nI B.2.2.2))) ∧ h.2 (w + 1) = some (.inl (0, 486, .inl (fun j => eo (B.1 j)))) ∧ h.2 (w + 2) = some (.inl (0, 486, .inl (fun j => nI (B.2.1 j)))) ∧ h.2 (w + 3) = some (.inl (0, 81, .inl (fun j => eo (B.2.2.1 j))))
def Bsm (B : Bm) : Prop := B.2.2.2 ≤ 486 ∧ (∀ j p, B.1 j = some p → p < 2 ^ 31) ∧ (∀ j p, B.2.2.1 j = some p → p < 2 ^ 31)
/-- a place is noted, if it is new -/
def bput (B : Bm) (x d p : Nat) : Bm := (va_up B.1 (x * 6 + d) (some p), va_up B.2.1 B.2.2.2 (x * 6 + d), if B.2.2.1 x = none then va_up B.2.2.1 x (some (x * 6 + d)) else B.2.2.1, B.2.2.2 + 1)
def bnote (B : Bm) (x : Int32) (d p : Nat) : Bm := if 0 ≤ x ∧ x < 81 then (if B.2.2.2 < 486 then (if B.1 (x.toNatClampNeg * 6 + d) = none then bput B x.toNatClampNeg d p else B) else B) else B
def bspread (B : Bm) (G : Gm) (u pl p : Nat) : Bm := bnote (bnote (bnote B (k_ahead G u (nI (pl / 6)) (nI (pl % 6))) (pl % 6) (p * 10 + 1)) (nI (pl / 6)) ((pl % 6 + 1) % 6) (p * 10 + 2)) (nI (pl / 6)) ((pl % 6 + 5) % 6) (p * 10 + 3)
def bat (B : Bm) (i : Nat) : Nat := (B.1 (B.2.1 i)).getD 0
def bstep (B : Bm) (G : Gm) (u : Nat) (mo : Int32) (i : Nat) : Bm := if nI (nd (bat B i)) < mo then bspread B G u (B.2.1 i) (bat B i) else B
def bexp (G : Gm) (u : Nat) (mo : Int32) : Nat → Nat → Bm → Bm
  | 0, _, B => B
  | n + 1, i, B => if i < B.2.2.2 then bexp G u mo n (i + 1) (bstep B G u mo i) else B
theorem bexp_s (G : Gm) (u : Nat) (mo : Int32) (n i : Nat) (B : Bm) : bexp G u mo (n + 1) i B = if i < B.2.2.2 then bexp G u mo n (i + 1) (bstep B G u mo i) else B := rfl
def b0 (Q : Nat → Nat) : Bm := (fun _ => none, Q, fun _ => none, 0)
/-- what holds of what is noted -/
def Bok (B : Bm) : Prop := B.2.2.2 ≤ 486 ∧ (∀ j p, B.1 j = some p → p < 1000000) ∧ (∀ i, i < B.2.2.2 → B.2.1 i < 486 ∧ ∃ p, B.1 (B.2.1 i) = some p) ∧ (∀ x pl, B.2.2.1 x = some pl → pl < 486 ∧ pl / 6 = x ∧ ∃ p, B.1 pl = some p)
theorem Bok.sm {B : Bm} (h : Bok B) : Bsm B := ⟨h.1, fun j p q => by have := h.2.1 j p q; omega, fun j p q => by have := (h.2.2.2 j p q).1; omega⟩
theorem b0_ok (Q : Nat → Nat) : Bok (b0 Q) := ⟨Nat.zero_le _, fun j p q => (by cases q), fun i q => absurd q (Nat.not_lt_zero i), fun x pl q => (by cases q)⟩
theorem bput_ok {B : Bm} (h : Bok B) {x d p : Nat} (hx : x < 81) (hd : d < 6) (hp : p < 1000000) (hn : B.2.2.2 < 486) (hf : B.1 (x * 6 + d) = none) : Bok (bput B x d p) := by
  obtain ⟨h1, h2, h3, h4⟩ := h
  have keep : ∀ j q, B.1 j = some q → ∃ q', va_up B.1 (x * 6 + d) (some p) j = some q' := fun j q hq => by
    by_cases e : j = x * 6 + d
    · exact ⟨p, by simp [va_up, e]⟩
    · exact ⟨q, by simp [va_up, e, hq]⟩
  refine ⟨by simp only [bput]; omega, fun j q hq => ?_, fun i hi => ?_, fun y pl hq => ?_⟩
  · simp only [bput, va_up] at hq
    split at hq
    · cases hq; exact hp
    · exact h2 j q hq
  · simp only [bput] at hi ⊢
    by_cases e : i = B.2.2.2
    · subst e
      refine ⟨by simp only [va_up, if_true]; omega, p, by simp [va_up]⟩
    · have hi' := h3 i (by omega)
      refine ⟨by simp only [va_up, if_neg e]; exact hi'.1, ?_⟩
      obtain ⟨q, hq⟩ := hi'.2
      rw [show va_up B.2.1 B.2.2.2 (x * 6 + d) i = B.2.1 i by simp [va_up, e]]
      exact keep _ q hq
  · simp only [bput] at hq ⊢
    split at hq
    · simp only [va_up] at hq
      split at hq
      · rename_i e
        cases hq
        subst e
        exact ⟨by omega, by omega, p, by simp [va_up]⟩
      · obtain ⟨g1, g2, q, g3⟩ := h4 y pl hq
        exact ⟨g1, g2, keep _ q g3⟩
    · obtain ⟨g1, g2, q, g3⟩ := h4 y pl hq
      exact ⟨g1, g2, keep _ q g3⟩
theorem bnote_ok {B : Bm} (h : Bok B) {x : Int32} {d p : Nat} (hd : d < 6) (hp : p < 1000000) : Bok (bnote B x d p) := by
  unfold bnote
  split
  · rename_i hx
    split
    · rename_i hn
      split
      · rename_i hf
        obtain ⟨k, hk, e⟩ := i_nI hx.1 (show x < nI 81 from hx.2) (by decide)
        exact bput_ok h (by rw [e, nI_clamp (by omega)]; exact hk) hd hp hn hf
      · exact h
    · exact h
  · exact h
theorem nd_lt : ∀ (k p : Nat), nd p ≤ k → p < 10 ^ k
  | 0, p, h => by
    by_cases hp : p = 0
    · omega
    · rw [nd_s hp] at h; omega
  | k + 1, p, h => by
    by_cases hp : p = 0
    · rw [hp]; exact Nat.pow_pos (by decide)
    · rw [nd_s hp] at h
      have := nd_lt k (p / 10) (by omega)
      rw [Nat.pow_succ]
      omega
theorem bspread_ok {B : Bm} (h : Bok B) {G : Gm} {u pl p : Nat} (hp : p < 100000) : Bok (bspread B G u pl p) := by
  unfold bspread
  exact bnote_ok (bnote_ok (bnote_ok h (Nat.mod_lt _ (by decide)) (by omega)) (Nat.mod_lt _ (by decide)) (by omega)) (Nat.mod_lt _ (by decide)) (by omega)
theorem bat_lt {B : Bm} (h : Bok B) (i : Nat) : bat B i < 1000000 := by
  unfold bat
  cases q : B.1 (B.2.1 i) with
  | none => simp
  | some p => exact h.2.1 _ p q
theorem bat_5 {B : Bm} {i : Nat} {mo : Int32} (h : nI (nd (bat B i)) < mo) (hm : mo ≤ 6) (hB : Bok B) : bat B i < 100000 := by
  have h1 : nd (bat B i) ≤ 6 := nd_le 6 _ (bat_lt hB i)
  have h2 : nI (nd (bat B i)) < nI 6 := by
    rw [Int32.lt_iff_toInt_lt] at h ⊢
    rw [Int32.le_iff_toInt_le] at hm
    exact Int.lt_of_lt_of_le h hm
  have h3 := (nI_ltI (by omega) (by decide)).mp h2
  have := nd_lt 5 (bat B i) (by omega)
  omega
theorem bstep_ok {B : Bm} (h : Bok B) {G : Gm} {u i : Nat} {mo : Int32} (hm : mo ≤ 6) : Bok (bstep B G u mo i) := by
  unfold bstep
  split
  · rename_i q
    exact bspread_ok h (bat_5 q hm h)
  · exact h
theorem bexp_ok {G : Gm} {u : Nat} {mo : Int32} (hm : mo ≤ 6) : ∀ (n i : Nat) (B : Bm), Bok B → Bok (bexp G u mo n i B)
  | 0, _, _, h => h
  | n + 1, i, B, h => by
    rw [bexp_s]
    split
    · exact bexp_ok hm n (i + 1) _ (bstep_ok h hm)
    · exact h
theorem turn_2 : ∀ d, d < 6 → k_turn (nI d) 2 = nI ((d + 1) % 6) := by decide +kernel
theorem turn_3 : ∀ d, d < 6 → k_turn (nI d) 3 = nI ((d + 5) % 6) := by decide +kernel
section LV15
variable {l : Launch} {D : va_G} {cA : Nat → ClassId} {N0 : Nat} {h : AH} {w : Nat} {B : Bm}
theorem RtAt.keep {h h1 : AH} (hR : RtAt h w B) (e : ∀ q, w ≤ q → q < w + 4 → h1.2 q = h.2 q) : RtAt h1 w B :=
  ⟨by rw [e w (by omega) (by omega)]; exact hR.1, by rw [e _ (by omega) (by omega)]; exact hR.2.1, by rw [e _ (by omega) (by omega)]; exact hR.2.2.1, by rw [e _ (by omega) (by omega)]; exact hR.2.2.2⟩
theorem Frm.one (h : AH) {a n b : Nat} (e : AE) (h1 : a ≤ b) (h2 : b < a + n) : Frm h (hput h b e) a n := ⟨rfl, fun q hq => hput_ne _ _ (by omega)⟩
theorem Frm.of {h h1 : AH} {a n b : Nat} {e : AE} (q : h1 = hput h b e) (z1 : a ≤ b) (z2 : b < a + n) : Frm h h1 a n := q ▸ Frm.one h e z1 z2
set_option maxHeartbeats 4000000 in
set_option maxRecDepth 100000 in
theorem L_J7_fill {a N : Nat} {v : Int32} (hN : N < 2 ^ 31) : ∀ (n i : Nat) (f : Nat → Int32) (h1 : AH), i + n = N → (∀ j, j < i → f j = v) → h1 = hput h a (.inl (0, N, .inl f)) → RunM l D cA N0 m_J7_fill_53178 0 0 0 (fun r h' => r = none ∧ h' = hput h a (.inl (0, N, .inl (fun _ => v)))) h1 0 0 5 [some (.ref a), some (.int v), some (.int (nI i)), some (.int (nI N))] [] := by
  intro n
  induction n with
  | zero =>
    intro i f h1 hi hf q1
    have him : i = N := by omega
    refine R_iload_n2 (pc := 5) dJ7_fill_53178_5 ?_
    refine R_iload_n3 (pc := 6) dJ7_fill_53178_6 ?_
    refine R_icmp_ge (pc := 7) 20 dJ7_fill_53178_7 (by decide) (fun c_7 => ?_) (fun c_7 => absurd (by rw [him]; exact nI_le (Nat.le_refl N) hN) c_7)
    rw [q1]
    refine R_heap (fun H hR => Rh.norm (e2 := .inl (0, N, .inl (fun _ => v))) (at_i (fun j hj => hf j (by omega))) hR) ?_
    refine R_vret (pc := 20) rfl dJ7_fill_53178_20 ?_
    exact ⟨rfl, rfl⟩
  | succ n ih =>
    intro i f h1 hi hf q1
    have r1 : h1.2 a = some (.inl (0, N, .inl f)) := by rw [q1]; exact hput_at _ _ _
    refine R_iload_n2 (pc := 5) dJ7_fill_53178_5 ?_
    refine R_iload_n3 (pc := 6) dJ7_fill_53178_6 ?_
    refine R_icmp_ge (pc := 7) 20 dJ7_fill_53178_7 (by decide) (fun c_7 => absurd c_7 (nI_ge (show i < N by omega) hN)) (fun c_7 => ?_)
    refine R_aload_n0 (pc := 10) dJ7_fill_53178_10 ?_
    refine R_iload_n2 (pc := 11) dJ7_fill_53178_11 ?_
    refine R_iload_n1 (pc := 12) dJ7_fill_53178_12 ?_
    refine R_iastF (pc := 13) dJ7_fill_53178_13 (by assumption) (in_n (show i < N by omega) hN) (fun h1 e1 f1 => ?_)
    rw [nI_clamp (show i < 2 ^ 31 by omega), q1, hput_hput] at e1
    refine R_iinc2 (pc := 14) dJ7_fill_53178_14 rfl (by decide) ?_
    refine R_goto (pc := 17) 5 dJ7_fill_53178_17 (by decide) ?_
    rw [nI_s]
    exact ih (i + 1) (upd f i v) _ (by omega) (fun j hj => by by_cases e : j = i <;> simp [upd, e]; exact hf j (by omega)) e1

set_option maxHeartbeats 4000000 in
set_option maxRecDepth 100000 in
theorem c_J7_fill_53178 {a N : Nat} {v : Int32} {f : Nat → Int32} (hN : N < 2 ^ 31) (ha : h.2 a = some (.inl (0, N, .inl f))) : Spec l D cA N0 m_J7_fill_53178 0 0 0 [.ref a, .int v] h (fun r h' => r = none ∧ h' = hput h a (.inl (0, N, .inl (fun _ => v)))) := by
  refine Spec.of (L := [some (.ref a), some (.int v), none, none]) (by decide) rfl (Nat.le_of_ble_eq_true rfl) ?_
  refine R_iconst (pc := 0) (v := 0) dJ7_fill_53178_0 (by decide) ?_
  refine R_istore_n2 (pc := 1) dJ7_fill_53178_1 rfl (by decide) ?_
  refine R_aload_n0 (pc := 2) dJ7_fill_53178_2 ?_
  refine R_alen (pc := 3) (v := nI N) dJ7_fill_53178_3 (by assumption) (by decide) rfl ?_
  refine R_istore_n3 (pc := 4) dJ7_fill_53178_4 rfl (by decide) ?_
  exact L_J7_fill hN N 0 f h (Nat.zero_add N) (fun j hj => absurd hj (Nat.not_lt_zero j)) (hput_self ha).symm

set_option maxHeartbeats 4000000 in
set_option maxRecDepth 100000 in
theorem c_X6_note (hR : RtAt h w B) (hS : Bsm B) {x : Int32} {d p : Nat} (hd : d < 6) (hp : p < 2 ^ 31) : Spec l D cA N0 m_X6_note 1 0 0 [.ref w, .int x, .int (nI d), .int (nI p)] h (fun r h' => r = none ∧ RtAt h' w (bnote B x d p) ∧ Frm h h' w 4) := by
  refine Spec.of (L := [some (.ref w), some (.int x), some (.int (nI d)), some (.int (nI p)), none]) (by decide) rfl (Nat.le_of_ble_eq_true rfl) ?_
  have r0 := hR.1
  have r1 := hR.2.1
  have r2 := hR.2.2.1
  have r3 := hR.2.2.2
  have hdi : 0 ≤ nI d ∧ nI d < 6 := ⟨nI_pos' (by omega), nI_lt hd (by decide)⟩
  refine R_iload_n1 (pc := 0) dX6_note_0 ?_
  refine R_callS1 (pc := 1) cal_X2_exists kw536 kw405 dX6_note_1 c_X2_exists (by decide) (Nat.le_of_ble_eq_true rfl) ?_
  rintro _ _ ⟨rfl, rfl⟩
  refine R_ifb_eq (pc := 4) 26 dX6_note_4 (by decide) (fun c_4 => ?_) (fun c_4 => ?_)
  · skip
    refine R_vret (pc := 26) rfl dX6_note_26 ?_
    have hb : bnote B x d p = B := by rw [bnote, if_neg c_4]
    rw [hb]
    exact ⟨rfl, hR, Frm.rf _ _ _⟩
  · skip
    refine R_iload_n2 (pc := 7) dX6_note_7 ?_
    refine R_callS1 (pc := 8) cal_X2_isDirection kw537 kw434 dX6_note_8 c_X2_isDirection (by decide) (Nat.le_of_ble_eq_true rfl) ?_
    rintro _ _ ⟨rfl, rfl⟩
    refine R_ifb_eq (pc := 11) 26 dX6_note_11 (by decide) (fun c_11 => ?_) (fun c_11 => ?_)
    · skip
      refine R_vret (pc := 26) rfl dX6_note_26 ?_
      exact absurd hdi c_11
    · skip
      refine R_aload_n0 (pc := 14) dX6_note_14 ?_
      refine G_X6_29 (pc := 15) dX6_note_15 (by assumption) ?_
      refine R_aload_n0 (pc := 18) dX6_note_18 ?_
      refine G_X6_17 (pc := 19) dX6_note_19 (by assumption) ?_
      refine R_alen (pc := 22) (v := 486) dX6_note_22 (by assumption) (by decide) rfl ?_
      refine R_icmp_lt (pc := 23) 27 dX6_note_23 (by decide) (fun c_23 => ?_) (fun c_23 => ?_)
      · skip
        have d_23 := Int32.not_le.mpr c_23
        have hn1 : B.2.2.2 < 486 := (nI_ltI (by have := hS.1; omega) (by decide)).mp c_23
        obtain ⟨k, hk, hxk⟩ := i_nI c_4.1 (show x < nI 81 from c_4.2) (by decide)
        have hxc : x.toNatClampNeg = k := by rw [hxk, nI_clamp (by omega)]
        have hpl : x * 6 + nI d = nI (x.toNatClampNeg * 6 + d) := by rw [hxc, hxk, show (6 : Int32) = nI 6 from rfl, pk_mul, nI_add]
        have hpc : (nI (x.toNatClampNeg * 6 + d)).toNatClampNeg = (x.toNatClampNeg * 6 + d) := nI_clamp (by rw [hxc]; omega)
        have hpi : vp_in (nI (x.toNatClampNeg * 6 + d)) 486 := in_n (by rw [hxc]; omega) (by decide)
        have hxi : vp_in x 81 := in_x (by decide) c_4.1 c_4.2
        refine R_iload_n1 (pc := 27) dX6_note_27 ?_
        refine R_bipush (pc := 28) (v := 6) dX6_note_28 (by decide) ?_
        refine R_imul (pc := 30) dX6_note_30 ?_
        refine R_iload_n2 (pc := 31) dX6_note_31 ?_
        refine R_iadd (pc := 32) dX6_note_32 ?_
        rw [hpl]
        refine R_istore4 (pc := 33) dX6_note_33 rfl (by decide) ?_
        refine R_aload_n0 (pc := 35) dX6_note_35 ?_
        refine G_X6_13 (pc := 36) dX6_note_36 (by assumption) ?_
        refine R_iload4 (pc := 39) dX6_note_39 ?_
        refine R_iald (pc := 41) dX6_note_41 (by assumption) hpi ?_
        rw [hpc]
        refine R_iconst (pc := 42) (v := (-1)) dX6_note_42 (by decide) ?_
        refine R_icmp_eq (pc := 43) 47 dX6_note_43 (by decide) (fun c_43 => ?_) (fun c_43 => ?_)
        · skip
          refine R_aload_n0 (pc := 47) dX6_note_47 ?_
          refine G_X6_13 (pc := 48) dX6_note_48 (by assumption) ?_
          refine R_iload4 (pc := 51) dX6_note_51 ?_
          refine R_iload_n3 (pc := 53) dX6_note_53 ?_
          refine R_iastF (pc := 54) dX6_note_54 (by assumption) hpi (fun h1 e1 f1 => ?_)
          have hfree : B.1 (x.toNatClampNeg * 6 + d) = none := (eo_m1 (hS.2.1 _)).mp c_43
          rw [hpc, eo_up] at e1 f1
          have fr : Frm _ h1 w 4 := Frm.of e1 (by omega) (by omega)
          have r0 : h1.2 w = some (.inr (4, ob4 (fun k => w + 1 + k) (fun _ => nI B.2.2.2))) := by rw [e1, hput_ne _ _ (by omega)]; exact r0
          have r2 : h1.2 (w + 2) = some (.inl (0, 486, .inl (fun j => nI (B.2.1 j)))) := by rw [e1, hput_ne _ _ (by omega)]; exact r2
          have r3 : h1.2 (w + 3) = some (.inl (0, 81, .inl (fun j => eo (B.2.2.1 j)))) := by rw [e1, hput_ne _ _ (by omega)]; exact r3
          have r1 := f1
          refine R_aload_n0 (pc := 55) dX6_note_55 ?_
          refine G_X6_17 (pc := 56) dX6_note_56 (by assumption) ?_
          refine R_aload_n0 (pc := 59) dX6_note_59 ?_
          refine G_X6_29 (pc := 60) dX6_note_60 (by assumption) ?_
          refine R_iload4 (pc := 63) dX6_note_63 ?_
          refine R_iastF (pc := 65) dX6_note_65 (by assumption) (in_n hn1 (by decide)) (fun h2 e2 f2 => ?_)
          rw [nI_clamp (show B.2.2.2 < 2 ^ 31 by omega), nI_up] at e2 f2
          have fr := fr.tr (Frm.of e2 (by omega) (by omega) : Frm _ h2 w 4)
          have r0 : h2.2 w = some (.inr (4, ob4 (fun k => w + 1 + k) (fun _ => nI B.2.2.2))) := by rw [e2, hput_ne _ _ (by omega)]; exact r0
          have r1 : h2.2 (w + 1) = some (.inl (0, 486, .inl (fun j => eo (va_up B.1 (x.toNatClampNeg * 6 + d) (some p) j)))) := by rw [e2, hput_ne _ _ (by omega)]; exact r1
          have r3 : h2.2 (w + 3) = some (.inl (0, 81, .inl (fun j => eo (B.2.2.1 j)))) := by rw [e2, hput_ne _ _ (by omega)]; exact r3
          have r2 := f2
          refine R_aload_n0 (pc := 66) dX6_note_66 ?_
          refine R_dup (pc := 67) dX6_note_67 rfl ?_
          refine G_X6_29 (pc := 68) dX6_note_68 (by assumption) ?_
          refine R_iconst (pc := 71) (v := 1) dX6_note_71 (by decide) ?_
          refine R_iadd (pc := 72) dX6_note_72 ?_
          refine P_X6_29 (pc := 73) dX6_note_73 (by assumption) (fun h3 e3 f3 => ?_)
          have fr := fr.tr (Frm.of e3 (by omega) (by omega) : Frm _ h3 w 4)
          have r0 : h3.2 w = some (.inr (4, ob4 (fun k => w + 1 + k) (fun _ => nI (B.2.2.2 + 1)))) := by rw [f3, ← nI_1]; rfl
          have r1 : h3.2 (w + 1) = some (.inl (0, 486, .inl (fun j => eo (va_up B.1 (x.toNatClampNeg * 6 + d) (some p) j)))) := by rw [e3, hput_ne _ _ (by omega)]; exact r1
          have r2 : h3.2 (w + 2) = some (.inl (0, 486, .inl (fun j => nI (va_up B.2.1 B.2.2.2 (x.toNatClampNeg * 6 + d) j)))) := by rw [e3, hput_ne _ _ (by omega)]; exact r2
          have r3 : h3.2 (w + 3) = some (.inl (0, 81, .inl (fun j => eo (B.2.2.1 j)))) := by rw [e3, hput_ne _ _ (by omega)]; exact r3
          refine R_aload_n0 (pc := 76) dX6_note_76 ?_
          refine G_X6_20 (pc := 77) dX6_note_77 (by assumption) ?_
          refine R_iload_n1 (pc := 80) dX6_note_80 ?_
          refine R_iald (pc := 81) dX6_note_81 (by assumption) hxi ?_
          refine R_iconst (pc := 82) (v := (-1)) dX6_note_82 (by decide) ?_
          refine R_icmp_ne (pc := 83) 94 dX6_note_83 (by decide) (fun c_83 => ?_) (fun c_83 => ?_)
          · skip
            refine R_vret (pc := 94) rfl dX6_note_94 ?_
            have hb : bnote B x d p = bput B x.toNatClampNeg d p := by rw [bnote, if_pos c_4, if_pos hn1, if_pos hfree]
            have ha : B.2.2.1 x.toNatClampNeg ≠ none := fun z => c_83 ((eo_m1 (hS.2.2 _)).mpr z)
            rw [hb]
            exact ⟨rfl, ⟨by rw [r0]; rfl, r1, r2, by rw [r3, bput, if_neg ha]⟩, fr⟩
          · skip
            refine R_aload_n0 (pc := 86) dX6_note_86 ?_
            refine G_X6_20 (pc := 87) dX6_note_87 (by assumption) ?_
            refine R_iload_n1 (pc := 90) dX6_note_90 ?_
            refine R_iload4 (pc := 91) dX6_note_91 ?_
            refine R_iastF (pc := 93) dX6_note_93 (by assumption) hxi (fun h4 e4 f4 => ?_)
            rw [eo_up] at e4 f4
            have fr := fr.tr (Frm.of e4 (by omega) (by omega) : Frm _ h4 w 4)
            have r0 : h4.2 w = some (.inr (4, ob4 (fun k => w + 1 + k) (fun _ => nI (B.2.2.2 + 1)))) := by rw [e4, hput_ne _ _ (by omega)]; exact r0
            have r1 : h4.2 (w + 1) = some (.inl (0, 486, .inl (fun j => eo (va_up B.1 (x.toNatClampNeg * 6 + d) (some p) j)))) := by rw [e4, hput_ne _ _ (by omega)]; exact r1
            have r2 : h4.2 (w + 2) = some (.inl (0, 486, .inl (fun j => nI (va_up B.2.1 B.2.2.2 (x.toNatClampNeg * 6 + d) j)))) := by rw [e4, hput_ne _ _ (by omega)]; exact r2
            have r3 := f4
            refine R_vret (pc := 94) rfl dX6_note_94 ?_
            have hb : bnote B x d p = bput B x.toNatClampNeg d p := by rw [bnote, if_pos c_4, if_pos hn1, if_pos hfree]
            have ha : B.2.2.1 x.toNatClampNeg = none := (eo_m1 (hS.2.2 _)).mp c_83
            rw [hb]
            exact ⟨rfl, ⟨by rw [r0]; rfl, r1, r2, by rw [r3, bput, if_pos ha]⟩, fr⟩
        · skip
          refine R_vret (pc := 46) rfl dX6_note_46 ?_
          have hb : bnote B x d p = B := by rw [bnote, if_pos c_4, if_pos hn1, if_neg (fun z => c_43 ((eo_m1 (hS.2.1 _)).mpr z))]
          rw [hb]
          exact ⟨rfl, hR, Frm.rf _ _ _⟩
      · skip
        have d_23 := Int32.not_lt.mp c_23
        refine R_vret (pc := 26) rfl dX6_note_26 ?_
        have hb : bnote B x d p = B := by rw [bnote, if_pos c_4, if_neg (fun z => c_23 ((nI_ltI (by have := hS.1; omega) (by decide)).mpr z))]
        rw [hb]
        exact ⟨rfl, hR, Frm.rf _ _ _⟩

end LV15
