/-! HISTORY of the class: the rows change places -/
def hrow (r : Nat → Nat) : AE := .inl (3, 6, .inr (.inr (.inr (.inr (fun x => some (r x))))))
theorem hput_self {h : AH} {a : Nat} {e : AE} (he : h.2 a = some e) : hput h a e = h := by
  obtain ⟨z, f⟩ := h
  simp only [hput]
  congr 1
  funext q
  by_cases hq : q = a
  · rw [if_pos hq, hq]; exact he.symm
  · rw [if_neg hq]
def rsh (r : Nat → Nat) (i : Nat) : Nat → Nat := fun j => if i < j ∧ j < 6 then r (j - 1) else r j
theorem rsh_5 (r : Nat → Nat) : rsh r 5 = r := by
  funext j
  simp only [rsh]
  rw [if_neg (by omega)]
theorem rsh_s (r : Nat → Nat) {i : Nat} (hi : i < 5) : va_up (rsh r (i + 1)) (i + 1) (rsh r (i + 1) i) = rsh r i := by
  funext j
  simp only [rsh, va_up]
  by_cases e : j = i + 1
  · rw [if_pos e, if_neg (by omega), if_pos (by omega), e]; rfl
  · rw [if_neg e]
    by_cases e2 : i + 1 < j ∧ j < 6
    · rw [if_pos e2, if_pos (by omega)]
    · rw [if_neg e2, if_neg (by omega)]
def lsh (r : Nat → Nat) (i : Nat) : Nat → Nat := fun j => if j < i then r (j + 1) else r j
theorem lsh_0 (r : Nat → Nat) : lsh r 0 = r := by
  funext j
  simp only [lsh]
  rw [if_neg (by omega)]
theorem lsh_s (r : Nat → Nat) (i : Nat) : va_up (lsh r i) i (lsh r i (i + 1)) = lsh r (i + 1) := by
  funext j
  simp only [lsh, va_up]
  by_cases e : j = i
  · rw [if_pos e, if_neg (by omega), if_pos (by omega), e]
  · rw [if_neg e]
    by_cases e2 : j < i
    · rw [if_pos e2, if_pos (by omega)]
    · rw [if_neg e2, if_neg (by omega)]
/-- what settle leaves, what stepBack leaves -/
def hset (h : AH) (b : Nat) (A : Nat → Nat) (r : Nat → Nat) (n : Int32) : AH := hput (hput h (A 0) (hrow (va_up (rsh r 0) 0 (A 1)))) b (.inr (2, ob2 (va_up A 1 (r 5)) (fun _ => n)))
def hback (h : AH) (b : Nat) (A : Nat → Nat) (r : Nat → Nat) (n : Int32) : AH := hput (hput h (A 0) (hrow (va_up (lsh r 5) 5 (r 0)))) b (.inr (2, ob2 A (fun _ => n)))
theorem nI_m (i : Nat) : nI (i + 1) + Int32.ofInt (-1) = nI i := pk_m1 i
theorem nI_p (i : Nat) : nI (i + 1) - 1 = nI i := nI_pred i
section LV12
variable {l : Launch} {D : va_G} {cA : Nat → ClassId} {N0 : Nat} {h : AH} {b : Nat} {A r : Nat → Nat} {Fv : Nat → Int32}
set_option maxHeartbeats 4000000 in
set_option maxRecDepth 100000 in
theorem c_X3_size (ho : h.2 b = some (.inr (2, ob2 A Fv))) : Spec l D cA N0 m_X3_size 0 0 0 [.ref b] h (fun a h' => a = some (.int (Fv 2)) ∧ h' = h) := by
  refine Spec.of (L := [some (.ref b)]) (by decide) rfl (Nat.le_of_ble_eq_true rfl) ?_
  refine R_aload_n0 (pc := 0) dX3_size_0 ?_
  refine G_X3_22 (pc := 1) dX3_size_1 (by assumption) ?_
  refine R_iret (pc := 4) rfl rfl dX3_size_4 ?_
  exact ⟨rfl, rfl⟩

set_option maxHeartbeats 4000000 in
set_option maxRecDepth 100000 in
theorem c_X3_keepAside {s : Nat} {S T : Sm} (ho : h.2 b = some (.inr (2, ob2 A Fv))) (hS : StAt h (A 1) T) (hT : StAt h s S) (hd : s + 40 ≤ A 1 ∨ A 1 + 40 ≤ s) (hz : sBz S) : Spec l D cA N0 m_X3_keepAside 3 0 0 [.ref b, .ref s] h (fun a h' => a = none ∧ h' = sput h (A 1) S) := by
  refine Spec.of (L := [some (.ref b), some (.ref s)]) (by decide) rfl (Nat.le_of_ble_eq_true rfl) ?_
  refine R_aload_n0 (pc := 0) dX3_keepAside_0 ?_
  refine G_X3_18 (pc := 1) dX3_keepAside_1 (by assumption) ?_
  refine R_aload_n1 (pc := 4) dX3_keepAside_4 ?_
  refine R_callV1 (pc := 5) (T := TX8) cal_X8_copyFrom kw258 kw259 kw260 dX3_keepAside_5 (c_X8_copyFrom (by assumption) (by assumption) (by assumption) (by assumption)) (by decide) (Nat.le_of_ble_eq_true rfl) (ci := 6) rfl hS.o ?_
  rintro _ _ ⟨rfl, rfl⟩
  refine R_vret (pc := 8) rfl dX3_keepAside_8 ?_
  exact ⟨rfl, rfl⟩

set_option maxHeartbeats 4000000 in
set_option maxRecDepth 100000 in
theorem L_X3_settle (ho : h.2 b = some (.inr (2, ob2 A Fv))) (hr : h.2 (A 0) = some (hrow r)) (hne : A 0 ≠ b) (hst : ∀ j, j < 6 → A 0 ≠ r j ∧ ∃ fs, h.2 (r j) = some (.inr (6, fs))) {v : Int32} (hal : ∀ h1 : AH, (∀ q, q ≠ A 0 → h1.2 q = h.2 q) → ∃ fs, h1.2 (A 1) = some (.inr (6, fs))) : ∀ (i : Nat), i ≤ 5 → ∀ h1 : AH, h1 = hput h (A 0) (hrow (rsh r i)) → RunM l D cA N0 m_X3_settle 1 0 0 (fun a h' => a = some (.int v) ∧ h' = hset h b A r (kmin (Fv 2 + 1) 6)) h1 0 0 15 [some (.ref b), some (.int v), some (.ref (r 5)), some (.int (nI i))] [] := by
  intro i
  induction i with
  | zero =>
    intro hi h1 q1
    obtain ⟨fsa, hal⟩ := hal h1 (fun q hq => by rw [q1]; exact hput_ne _ _ hq)
    have ho1 : h1.2 b = some (.inr (2, ob2 A Fv)) := by rw [q1, hput_ne _ _ (Ne.symm hne)]; exact ho
    have hr1 : h1.2 (A 0) = some (hrow (rsh r 0)) := by rw [q1]; exact hput_at _ _ _
    refine R_iload_n3 (pc := 15) dX3_settle_15 ?_
    refine R_if_le (pc := 16) 39 dX3_settle_16 (by decide) (fun c_16 => ?_) (fun c_16 => absurd (by decide) c_16)
    refine R_aload_n0 (pc := 39) dX3_settle_39 ?_
    refine G_X3_13 (pc := 40) dX3_settle_40 (by assumption) ?_
    refine R_iconst (pc := 43) (v := 0) dX3_settle_43 (by decide) ?_
    refine R_aload_n0 (pc := 44) dX3_settle_44 ?_
    refine G_X3_18 (pc := 45) dX3_settle_45 (by assumption) ?_
    refine R_ast3 (pc := 48) dX3_settle_48 (by assumption) (show vp_in 0 6 from in_n (i := 0) (by decide) (by decide)) hal (fun h1 e1 f1 => ?_)
    have ho2 : h1.2 b = some (.inr (2, ob2 A Fv)) := by rw [e1, hput_ne _ _ (Ne.symm hne)]; exact ho1
    refine R_aload_n0 (pc := 49) dX3_settle_49 ?_
    refine R_aload_n2 (pc := 50) dX3_settle_50 ?_
    refine P_X3_18 (pc := 51) dX3_settle_51 (by assumption) (fun h2 e2 f2 => ?_)
    refine R_aload_n0 (pc := 54) dX3_settle_54 ?_
    refine R_aload_n0 (pc := 55) dX3_settle_55 ?_
    refine G_X3_22 (pc := 56) dX3_settle_56 (by assumption) ?_
    refine R_iconst (pc := 59) (v := 1) dX3_settle_59 (by decide) ?_
    refine R_iadd (pc := 60) dX3_settle_60 ?_
    refine R_bipush (pc := 61) (v := 6) dX3_settle_61 (by decide) ?_
    refine R_mmin (pc := 63) kw304 dX3_settle_63 (by decide) rfl (by decide) (by decide) ?_
    refine P_X3_22 (pc := 66) dX3_settle_66 (by assumption) (fun h3 e3 f3 => ?_)
    refine R_iload_n1 (pc := 69) dX3_settle_69 ?_
    refine R_iret (pc := 70) rfl rfl dX3_settle_70 ?_
    exact ⟨rfl, by rw [e3, e2, e1, q1]; simp only [hput_hput, hset]; rfl⟩
  | succ i ih =>
    intro hi h1 q1
    have ho1 : h1.2 b = some (.inr (2, ob2 A Fv)) := by rw [q1, hput_ne _ _ (Ne.symm hne)]; exact ho
    have hr1 : h1.2 (A 0) = some (hrow (rsh r (i + 1))) := by rw [q1]; exact hput_at _ _ _
    refine R_iload_n3 (pc := 15) dX3_settle_15 ?_
    refine R_if_le (pc := 16) 39 dX3_settle_16 (by decide) (fun c_16 => absurd c_16 (nI_nle (Nat.succ_pos i) (by omega))) (fun c_16 => ?_)
    refine R_aload_n0 (pc := 19) dX3_settle_19 ?_
    refine G_X3_13 (pc := 20) dX3_settle_20 (by assumption) ?_
    refine R_iload_n3 (pc := 23) dX3_settle_23 ?_
    refine R_aload_n0 (pc := 24) dX3_settle_24 ?_
    refine G_X3_13 (pc := 25) dX3_settle_25 (by assumption) ?_
    refine R_iload_n3 (pc := 28) dX3_settle_28 ?_
    refine R_iconst (pc := 29) (v := 1) dX3_settle_29 (by decide) ?_
    refine R_isub (pc := 30) dX3_settle_30 ?_
    rw [nI_p]
    refine R_ald3 (pc := 31) dX3_settle_31 (by assumption) (in_n (show i < 6 by omega) (by decide)) ?_
    rw [nI_clamp (show i < 2 ^ 31 by omega)]
    have hri : rsh r (i + 1) i = r i := by simp only [rsh]; rw [if_neg (by omega)]
    have hrv : ∃ fs, h1.2 (rsh r (i + 1) i) = some (.inr (6, fs)) := by rw [hri, q1, hput_ne _ _ (Ne.symm (hst i (by omega)).1)]; exact (hst i (by omega)).2
    obtain ⟨fsv, hrv⟩ := hrv
    refine R_ast3 (pc := 32) dX3_settle_32 (by assumption) (in_n (show i + 1 < 6 by omega) (by decide)) hrv (fun h1 e1 f1 => ?_)
    rw [nI_clamp (show i + 1 < 2 ^ 31 by omega), rsh_s r (show i < 5 by omega)] at e1
    refine R_iinc3 (pc := 33) dX3_settle_33 rfl (by decide) ?_
    refine R_goto (pc := 36) 15 dX3_settle_36 (by decide) ?_
    rw [nI_m]
    exact ih (by omega) _ (by rw [q1, hput_hput] at e1; exact e1)

set_option maxHeartbeats 4000000 in
set_option maxRecDepth 100000 in
theorem c_X3_settle (ho : h.2 b = some (.inr (2, ob2 A Fv))) (hr : h.2 (A 0) = some (hrow r)) (hne : A 0 ≠ b) (hst : ∀ j, j < 6 → A 0 ≠ r j ∧ ∃ fs, h.2 (r j) = some (.inr (6, fs))) {v : Int32} (ha1 : A 1 ≠ A 0 ∧ ∃ fs, h.2 (A 1) = some (.inr (6, fs))) : Spec l D cA N0 m_X3_settle 1 0 0 [.ref b, .int v] h (fun a h' => a = some (.int v) ∧ h' = if 0 ≤ v then hset h b A r (kmin (Fv 2 + 1) 6) else h) := by
  refine Spec.of (L := [some (.ref b), some (.int v), none, none]) (by decide) rfl (Nat.le_of_ble_eq_true rfl) ?_
  refine R_iload_n1 (pc := 0) dX3_settle_0 ?_
  refine R_if_ge (pc := 1) 6 dX3_settle_1 (by decide) (fun c_1 => ?_) (fun c_1 => ?_)
  · skip
    have d_1 := Int32.not_lt.mpr c_1
    refine R_aload_n0 (pc := 6) dX3_settle_6 ?_
    refine G_X3_13 (pc := 7) dX3_settle_7 (by assumption) ?_
    refine R_iconst (pc := 10) (v := 5) dX3_settle_10 (by decide) ?_
    refine R_ald3 (pc := 11) dX3_settle_11 hr (show vp_in 5 6 from in_n (i := 5) (by decide) (by decide)) ?_
    refine R_astore_n2 (pc := 12) dX3_settle_12 rfl (by decide) ?_
    refine R_iconst (pc := 13) (v := 5) dX3_settle_13 (by decide) ?_
    refine R_istore_n3 (pc := 14) dX3_settle_14 rfl (by decide) ?_
    rw [if_pos c_1]
    exact L_X3_settle ho hr hne hst (fun h1 e => by rw [e _ ha1.1]; exact ha1.2) 5 (Nat.le_refl 5) h (by rw [rsh_5]; exact (hput_self hr).symm)
  · skip
    have d_1 := Int32.not_le.mp c_1
    refine R_iload_n1 (pc := 4) dX3_settle_4 ?_
    refine R_iret (pc := 5) rfl rfl dX3_settle_5 ?_
    exact ⟨rfl, by rw [if_neg c_1]⟩

set_option maxHeartbeats 4000000 in
set_option maxRecDepth 100000 in
theorem L_X3_stepBack (ho : h.2 b = some (.inr (2, ob2 A Fv))) (hr : h.2 (A 0) = some (hrow r)) (hne : A 0 ≠ b) (hst : ∀ j, j < 6 → A 0 ≠ r j ∧ ∃ fs, h.2 (r j) = some (.inr (6, fs))) {s : Nat} : ∀ (n i : Nat), i + n = 5 → ∀ h1 : AH, h1 = hput h (A 0) (hrow (lsh r i)) → RunM l D cA N0 m_X3_stepBack 3 0 0 (fun a h' => a = some (.int (Fv 2 - 1)) ∧ h' = hback h b A r (Fv 2 - 1)) h1 0 0 24 [some (.ref b), some (.ref s), some (.ref (r 0)), some (.int (nI i))] [] := by
  intro n
  induction n with
  | zero =>
    intro i hi h1 q1
    have hi5 : i = 5 := by omega
    subst hi5
    have ho1 : h1.2 b = some (.inr (2, ob2 A Fv)) := by rw [q1, hput_ne _ _ (Ne.symm hne)]; exact ho
    have hr1 : h1.2 (A 0) = some (hrow (lsh r 5)) := by rw [q1]; exact hput_at _ _ _
    obtain ⟨fsa, hal0⟩ := (hst 0 (by decide)).2
    have hal : h1.2 (r 0) = some (.inr (6, fsa)) := by rw [q1, hput_ne _ _ (Ne.symm (hst 0 (by decide)).1)]; exact hal0
    refine R_iload_n3 (pc := 24) dX3_stepBack_24 ?_
    refine R_iconst (pc := 25) (v := 5) dX3_stepBack_25 (by decide) ?_
    refine R_icmp_ge (pc := 26) 49 dX3_stepBack_26 (by decide) (fun c_26 => ?_) (fun c_26 => absurd (by decide) c_26)
    refine R_aload_n0 (pc := 49) dX3_stepBack_49 ?_
    refine G_X3_13 (pc := 50) dX3_stepBack_50 (by assumption) ?_
    refine R_iconst (pc := 53) (v := 5) dX3_stepBack_53 (by decide) ?_
    refine R_aload_n2 (pc := 54) dX3_stepBack_54 ?_
    refine R_ast3 (pc := 55) dX3_stepBack_55 (by assumption) (show vp_in 5 6 from in_n (i := 5) (by decide) (by decide)) hal (fun h1 e1 f1 => ?_)
    have ho2 : h1.2 b = some (.inr (2, ob2 A Fv)) := by rw [e1, hput_ne _ _ (Ne.symm hne)]; exact ho1
    refine R_aload_n0 (pc := 56) dX3_stepBack_56 ?_
    refine R_dup (pc := 57) dX3_stepBack_57 rfl ?_
    refine G_X3_22 (pc := 58) dX3_stepBack_58 (by assumption) ?_
    refine R_iconst (pc := 61) (v := 1) dX3_stepBack_61 (by decide) ?_
    refine R_isub (pc := 62) dX3_stepBack_62 ?_
    refine P_X3_22 (pc := 63) dX3_stepBack_63 (by assumption) (fun h2 e2 f2 => ?_)
    refine R_aload_n0 (pc := 66) dX3_stepBack_66 ?_
    refine G_X3_22 (pc := 67) dX3_stepBack_67 (by assumption) ?_
    refine R_iret (pc := 70) rfl rfl dX3_stepBack_70 ?_
    exact ⟨rfl, by rw [e2, e1, q1]; simp only [hput_hput, hback]; rfl⟩
  | succ n ih =>
    intro i hi h1 q1
    have ho1 : h1.2 b = some (.inr (2, ob2 A Fv)) := by rw [q1, hput_ne _ _ (Ne.symm hne)]; exact ho
    have hr1 : h1.2 (A 0) = some (hrow (lsh r i)) := by rw [q1]; exact hput_at _ _ _
    refine R_iload_n3 (pc := 24) dX3_stepBack_24 ?_
    refine R_iconst (pc := 25) (v := 5) dX3_stepBack_25 (by decide) ?_
    refine R_icmp_ge (pc := 26) 49 dX3_stepBack_26 (by decide) (fun c_26 => absurd c_26 (nI_ge (show i < 5 by omega) (by decide))) (fun c_26 => ?_)
    refine R_aload_n0 (pc := 29) dX3_stepBack_29 ?_
    refine G_X3_13 (pc := 30) dX3_stepBack_30 (by assumption) ?_
    refine R_iload_n3 (pc := 33) dX3_stepBack_33 ?_
    refine R_aload_n0 (pc := 34) dX3_stepBack_34 ?_
    refine G_X3_13 (pc := 35) dX3_stepBack_35 (by assumption) ?_
    refine R_iload_n3 (pc := 38) dX3_stepBack_38 ?_
    refine R_iconst (pc := 39) (v := 1) dX3_stepBack_39 (by decide) ?_
    refine R_iadd (pc := 40) dX3_stepBack_40 ?_
    rw [nI_1]
    refine R_ald3 (pc := 41) dX3_stepBack_41 (by assumption) (in_n (show i + 1 < 6 by omega) (by decide)) ?_
    rw [nI_clamp (show i + 1 < 2 ^ 31 by omega)]
    have hri : lsh r i (i + 1) = r (i + 1) := by simp only [lsh]; rw [if_neg (by omega)]
    have hrv : ∃ fs, h1.2 (lsh r i (i + 1)) = some (.inr (6, fs)) := by rw [hri, q1, hput_ne _ _ (Ne.symm (hst (i + 1) (by omega)).1)]; exact (hst (i + 1) (by omega)).2
    obtain ⟨fsv, hrv⟩ := hrv
    refine R_ast3 (pc := 42) dX3_stepBack_42 (by assumption) (in_n (show i < 6 by omega) (by decide)) hrv (fun h1 e1 f1 => ?_)
    rw [nI_clamp (show i < 2 ^ 31 by omega), lsh_s r i] at e1
    refine R_iinc3 (pc := 43) dX3_stepBack_43 rfl (by decide) ?_
    refine R_goto (pc := 46) 24 dX3_stepBack_46 (by decide) ?_
    rw [nI_s]
    exact ih (i + 1) (by omega) _ (by rw [q1, hput_hput] at e1; exact e1)

set_option maxHeartbeats 4000000 in
set_option maxRecDepth 100000 in
theorem c_X3_stepBack (ho : h.2 b = some (.inr (2, ob2 A Fv))) (hr : h.2 (A 0) = some (hrow r)) (hne : A 0 ≠ b) (hst : ∀ j, j < 6 → A 0 ≠ r j ∧ ∃ fs, h.2 (r j) = some (.inr (6, fs))) {s : Nat} {S V : Sm} (hS : StAt h s S) (hV : StAt h (r 0) V) (hz : sBz V) (hb : b < s ∨ s + 40 ≤ b) (ha : A 0 < s ∨ s + 40 ≤ A 0) (hrs : ∀ j, j < 6 → r j + 40 ≤ s ∨ s + 40 ≤ r j) : Spec l D cA N0 m_X3_stepBack 3 0 0 [.ref b, .ref s] h (fun a h' => (Fv 2 = 0 → a = some (.int (-2)) ∧ h' = h) ∧ (¬ Fv 2 = 0 → a = some (.int (Fv 2 - 1)) ∧ h' = hback (sput h s V) b A r (Fv 2 - 1))) := by
  refine Spec.of (L := [some (.ref b), some (.ref s), none, none]) (by decide) rfl (Nat.le_of_ble_eq_true rfl) ?_
  refine R_aload_n0 (pc := 0) dX3_stepBack_0 ?_
  refine G_X3_22 (pc := 1) dX3_stepBack_1 (by assumption) ?_
  refine R_if_ne (pc := 4) 10 dX3_stepBack_4 (by decide) (fun c_4 => ?_) (fun c_4 => ?_)
  · skip
    refine R_aload_n0 (pc := 10) dX3_stepBack_10 ?_
    refine G_X3_13 (pc := 11) dX3_stepBack_11 (by assumption) ?_
    refine R_iconst (pc := 14) (v := 0) dX3_stepBack_14 (by decide) ?_
    refine R_ald3 (pc := 15) dX3_stepBack_15 hr (show vp_in 0 6 from in_n (i := 0) (by decide) (by decide)) ?_
    refine R_astore_n2 (pc := 16) dX3_stepBack_16 rfl (by decide) ?_
    refine R_aload_n1 (pc := 17) dX3_stepBack_17 ?_
    refine R_aload_n2 (pc := 18) dX3_stepBack_18 ?_
    refine R_callV1 (pc := 19) (T := TX8) cal_X8_copyFrom kw258 kw259 kw260 dX3_stepBack_19 (c_X8_copyFrom hS hV (hrs 0 (by decide)) hz) (by decide) (Nat.le_of_ble_eq_true rfl) (ci := 6) rfl hS.o ?_
    rintro _ h61 ⟨rfl, e61⟩
    refine R_iconst (pc := 22) (v := 0) dX3_stepBack_22 (by decide) ?_
    refine R_istore_n3 (pc := 23) dX3_stepBack_23 rfl (by decide) ?_
    refine R_post (fun a h' q => ⟨fun z => absurd z c_4, fun _ => q⟩) ?_
    rw [← e61]
    refine L_X3_stepBack (h := h61) (r := r) (by rw [e61, sput_out _ _ _ hb]; exact ho) (by rw [e61, sput_out _ _ _ ha]; exact hr) hne (fun j hj => ⟨(hst j hj).1, by rw [e61, sput_out _ _ _ (by have := hrs j hj; omega)]; exact (hst j hj).2⟩) 5 0 rfl h61 ?_
    rw [lsh_0]
    exact (hput_self (by rw [e61, sput_out _ _ _ ha]; exact hr)).symm
  · skip
    refine R_bipush (pc := 7) (v := (-2)) dX3_stepBack_7 (by decide) ?_
    refine R_iret (pc := 9) rfl rfl dX3_stepBack_9 ?_
    exact ⟨fun _ => ⟨rfl, rfl⟩, fun z => absurd c_4 z⟩

end LV12
