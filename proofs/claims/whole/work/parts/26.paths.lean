/-! THE REFERENCE: paths one by one; what is recorded -/
def bp (k : Nat) : Nat := if h : k = 0 then 0 else bp ((k - 1) / 3) * 10 + ((k - 1) % 3 + 1)
termination_by k
decreasing_by omega
def ln (k : Nat) : Nat := if h : k = 0 then 0 else ln ((k - 1) / 3) + 1
termination_by k
decreasing_by omega
theorem bp_0 : bp 0 = 0 := by rw [bp]; rfl
theorem bp_s {k : Nat} (h : k ≠ 0) : bp k = bp ((k - 1) / 3) * 10 + ((k - 1) % 3 + 1) := by rw [bp, dif_neg h]
theorem ln_0 : ln 0 = 0 := by rw [ln]; rfl
theorem ln_s {k : Nat} (h : k ≠ 0) : ln k = ln ((k - 1) / 3) + 1 := by rw [ln, dif_neg h]
theorem bp_pos {k : Nat} (h : k ≠ 0) : bp k ≠ 0 := by rw [bp_s h]; omega
theorem bp_d {k : Nat} (h : k ≠ 0) : bp k / 10 = bp ((k - 1) / 3) ∧ bp k % 10 = (k - 1) % 3 + 1 := by rw [bp_s h]; omega
theorem nd_bp (k : Nat) : nd (bp k) = ln k := by
  induction k using Nat.strongRecOn with
  | _ k ih =>
    by_cases h : k = 0
    · rw [h, bp_0, ln_0, nd_0]
    · rw [nd_s (bp_pos h), (bp_d h).1, ln_s h, ih _ (by omega)]
theorem dg_bp (k : Nat) : dg (bp k) = true := by
  induction k using Nat.strongRecOn with
  | _ k ih =>
    by_cases h : k = 0
    · rw [h, bp_0, dg_0]
    · rw [dg_s (bp_pos h), (bp_d h).1, ih _ (by omega), (bp_d h).2, decide_eq_true (by omega), decide_eq_true (by omega)]; rfl
theorem zpb_bp (k : Nat) : ∀ U L : Nat, zpb (bp k) U L = bp (k + 1) * U + L := by
  induction k using Nat.strongRecOn with
  | _ k ih =>
    intro U L
    by_cases h : k = 0
    · subst h
      rw [bp_0, zpb_n _ _ (by decide), bp_s (show 0 + 1 ≠ 0 by decide), show (0 + 1 - 1) / 3 = 0 from rfl, bp_0]
    · rw [bp_s (show k + 1 ≠ 0 by omega), show k + 1 - 1 = k from rfl]
      by_cases h3 : (k - 1) % 3 = 2
      · rw [zpb_3 _ _ (by rw [(bp_d h).2, h3]), (bp_d h).1, ih _ (by omega), show k / 3 = (k - 1) / 3 + 1 by omega, show k % 3 = 0 by omega, Nat.add_mul, Nat.mul_assoc, Nat.mul_comm 10 U]
        omega
      · rw [zpb_n _ _ (by rw [(bp_d h).2]; omega), show k / 3 = (k - 1) / 3 by omega, bp_s h, show k % 3 = (k - 1) % 3 + 1 by omega]
        rfl
def lB : Nat → Nat
  | 0 => 0
  | m + 1 => 3 * lB m + 3
theorem ln_le : ∀ m k, ln k ≤ m ↔ k ≤ lB m
  | 0, k => by
    by_cases h : k = 0
    · subst h; simp [ln_0, lB]
    · rw [ln_s h]; simp only [lB]; omega
  | m + 1, k => by
    by_cases h : k = 0
    · subst h; simp [ln_0]
    · rw [ln_s h, Nat.add_le_add_iff_right, ln_le m]; simp only [lB]; omega
theorem ln_pos {k : Nat} (h : k ≠ 0) : 1 ≤ ln k := by rw [ln_s h]; omega
theorem ln_6 {k : Nat} (h : k ≤ 1092) : ln k ≤ 6 := (ln_le 6 k).mpr h
theorem bp_lt {k : Nat} (h : k ≤ 1093) : bp k < 10000000 := nd_lt 7 _ (by rw [nd_bp]; exact (ln_le 7 k).mpr (Nat.le_trans h (by decide)))
theorem z_size_nI {p : Nat} (hp : p < 2 ^ 31) : z_size (nI p) = zsz 0 p := by
  unfold z_size
  by_cases h : 0 < nI p
  · rw [if_pos h, nI_clamp hp]
  · have : p = 0 := by
      have := Int32.not_lt.mp h
      exact (nI_le0 hp).mp this
    subst this
    rw [if_neg h, zsz, nd_0]; simp
theorem sz_bp {k : Nat} (h : k ≤ 1092) : z_size (nI (bp k)) = ln k := by
  rw [z_size_nI (by have := bp_lt (show k ≤ 1093 by omega); omega), zsz, if_pos ⟨dg_bp k, by rw [Nat.zero_add, nd_bp]; exact ln_6 h⟩, Nat.zero_add, nd_bp]
theorem sz_end : z_size (nI (bp 1093)) = 0 := by
  rw [z_size_nI (by have := bp_lt (show 1093 ≤ 1093 by omega); omega), zsz, if_neg]
  rw [Nat.zero_add, nd_bp, ln_le]
  exact fun z => absurd z.2 (by decide)
theorem gM_gM (M : Mm) (x d y e : Int32) : gM (gM M x d) y e = gM M y e := by
  rw [gM, fM_gM7, fM_gM8]
def zgo (s : Nat → Int32) (sn i k : Nat) : Bool × Int32 × Int32 := z_go s sn i (bp k) (ln k) (gx s i 1) (gx s i 2)
/-- which of the paths is the first one to a hex -/
def z_ptk (s : Nat → Int32) (sn i y : Nat) (mo : Int32) : Nat → Nat → Nat
  | 0, _ => 0
  | n + 1, k => if nI (ln k) ≤ mo then (if (zgo s sn i k).1 = true ∧ (zgo s sn i k).2.1 = nI y then k else z_ptk s sn i y mo n (k + 1)) else 0
theorem z_ptk_s (s : Nat → Int32) (sn i y : Nat) (mo : Int32) (n k : Nat) : z_ptk s sn i y mo (n + 1) k = if nI (ln k) ≤ mo then (if (zgo s sn i k).1 = true ∧ (zgo s sn i k).2.1 = nI y then k else z_ptk s sn i y mo n (k + 1)) else 0 := rfl
def z_path (s : Nat → Int32) (sn i y : Nat) (mo : Int32) : Nat := if 0 ≤ gx s i 1 ∧ ¬ gx s i 1 = nI y then z_ptk s sn i y mo 1092 1 else 0
def z_sh (b : Nat → Int32) (i : Nat) : Nat → Int32 := fun j => if j < i then b (545 + j) else b j
def z_cp (b s : Nat → Int32) (m i : Nat) : Nat → Int32 := fun j => if 545 * m ≤ j ∧ j < 545 * m + i then s (j - 545 * m) else b j
def z_recB (M : Mm) (m : Nat) : Mm := fM (bM M (z_cp M.2.2.1 M.2.1 m 545)) 3 (nI (m + 1))
def z_rec (M : Mm) (m : Nat) : Mm := if m = 6 then z_recB (fM (bM M (z_sh M.2.2.1 2725)) 3 (nI 5)) 5 else z_recB M m
theorem z_cp_0 (b s : Nat → Int32) (m : Nat) : z_cp b s m 0 = b := by
  funext j; simp only [z_cp]; rw [if_neg (by omega)]
theorem z_cp_s (b s : Nat → Int32) (m i : Nat) : upd (z_cp b s m i) (545 * m + i) (s i) = z_cp b s m (i + 1) := by
  funext j
  simp only [upd, z_cp]
  by_cases h : j = 545 * m + i
  · rw [if_pos h, if_pos (by omega), show j - 545 * m = i by omega]
  · rw [if_neg h]
    by_cases h2 : 545 * m ≤ j ∧ j < 545 * m + i
    · rw [if_pos h2, if_pos (by omega)]
    · rw [if_neg h2, if_neg (by omega)]
theorem z_sh_0 (b : Nat → Int32) : z_sh b 0 = b := by
  funext j; simp only [z_sh]; rw [if_neg (by omega)]
theorem z_sh_s (b : Nat → Int32) (i : Nat) : upd (z_sh b i) i (z_sh b i (545 + i)) = z_sh b (i + 1) := by
  funext j
  simp only [upd, z_sh]
  by_cases h : j = i
  · rw [if_pos h, if_neg (show ¬ 545 + i < i by omega), if_pos (show j < i + 1 by omega), h]
  · rw [if_neg h]
    by_cases h2 : j < i
    · rw [if_pos h2, if_pos (by omega)]
    · rw [if_neg h2, if_neg (by omega)]
theorem bM_bM (M : Mm) (a b : Nat → Int32) : bM (bM M a) b = bM M b := rfl
section LV26
variable {l : Launch} {D : va_G} {cA : Nat → ClassId} {N0 : Nat} {h : AH} {u : Nat} {M : Mm}
set_option maxHeartbeats 4000000 in
set_option maxRecDepth 100000 in
theorem L_X10_pathTo (hM : MAt h u M) {sn : Nat} (hn : sn ≤ 8) (hsn : M.2.1 10 = nI sn) {i y : Nat} (hi : i < 8) {mo : Int32} : ∀ (n k : Nat) (x d : Int32) (h1 : AH), k + n = 1093 → 1 ≤ k → h1 = mput h u (gM M x d) → RunM l D cA N0 m_X10_pathTo 4 0 0 (fun a h' => ∃ x d, a = some (.int (nI (bp (z_ptk M.2.1 sn i y mo n k)))) ∧ (¬ (z_ptk M.2.1 sn i y mo n k) = 0 → d = (zgo M.2.1 sn i (z_ptk M.2.1 sn i y mo n k)).2.2) ∧ h' = mput h u (gM M x d)) h1 0 0 23 [some (.ref u), some (.int (nI i)), some (.int (nI y)), some (.int mo), some (.int (nI (bp k)))] [] := by
  intro n
  induction n with
  | zero =>
    intro k x d h1 hk h1k q1
    have hM1 := mAt q1
    have mo1 := hM1.o
    have ms1 := hM1.s
    have mb1 := hM1.b
    have mt1 := hM1.t
    have mn1 := hM1.n
    have mc1 := hM1.c
    refine R_iload4 (pc := 23) dX10_pathTo_23 ?_
    refine R_callS1 (pc := 25) cal_X10_sizeOf kw954 kw955 dX10_pathTo_25 c_X10_sizeOf (by decide) (Nat.le_of_ble_eq_true rfl) ?_
    rintro _ _ ⟨rfl, rfl⟩
    rw [show k = 1093 by omega, sz_end]
    refine R_if_le (pc := 28) 76 dX10_pathTo_28 (by decide) (fun c_28 => ?_) (fun c_28 => absurd (by decide) c_28)
    refine R_iconst (pc := 76) (v := 0) dX10_pathTo_76 (by decide) ?_
    refine R_iret (pc := 77) rfl rfl dX10_pathTo_77 ?_
    exact ⟨_, _, by rw [show ∀ k, z_ptk M.2.1 sn i y mo 0 k = 0 from fun _ => rfl, bp_0]; rfl, fun z => absurd rfl z, q1⟩
  | succ n ih =>
    intro k x d h1 hk h1k q1
    have hM1 := mAt q1
    have mo1 := hM1.o
    have ms1 := hM1.s
    have mb1 := hM1.b
    have mt1 := hM1.t
    have mn1 := hM1.n
    have mc1 := hM1.c
    have hk2 : k ≤ 1092 := by omega
    have hb2 := bp_lt (show k ≤ 1093 by omega)
    have hl2 := ln_6 hk2
    refine R_iload4 (pc := 23) dX10_pathTo_23 ?_
    refine R_callS1 (pc := 25) cal_X10_sizeOf kw954 kw955 dX10_pathTo_25 c_X10_sizeOf (by decide) (Nat.le_of_ble_eq_true rfl) ?_
    rintro _ _ ⟨rfl, rfl⟩
    rw [sz_bp hk2]
    refine R_if_le (pc := 28) 76 dX10_pathTo_28 (by decide) (fun c_28 => absurd c_28 (fun z => absurd (show nI (ln k) ≤ nI 0 from z) (nI_nle (show 0 < ln k from ln_pos (by omega)) (by omega)))) (fun c_28 => ?_)
    refine R_iload4 (pc := 31) dX10_pathTo_31 ?_
    refine R_callS1 (pc := 33) cal_X10_sizeOf kw954 kw955 dX10_pathTo_33 c_X10_sizeOf (by decide) (Nat.le_of_ble_eq_true rfl) ?_
    rintro _ _ ⟨rfl, rfl⟩
    rw [sz_bp hk2]
    refine R_iload_n3 (pc := 36) dX10_pathTo_36 ?_
    refine R_icmp_gt (pc := 37) 76 dX10_pathTo_37 (by decide) (fun c_37 => ?_) (fun c_37 => ?_)
    · skip
      have d_37 := Int32.not_le.mpr c_37
      have hle : ¬ nI (ln k) ≤ mo := fun z => Int32.not_le.mpr c_37 z
      refine R_iconst (pc := 76) (v := 0) dX10_pathTo_76 (by decide) ?_
      refine R_iret (pc := 77) rfl rfl dX10_pathTo_77 ?_
      have hz : z_ptk M.2.1 sn i y mo (n + 1) k = 0 := by rw [z_ptk_s, if_neg hle]
      exact ⟨_, _, by rw [hz, bp_0]; rfl, fun z => absurd hz z, q1⟩
    · skip
      have d_37 := Int32.not_lt.mp c_37
      have hle : nI (ln k) ≤ mo := d_37
      refine R_aload_n0 (pc := 40) dX10_pathTo_40 ?_
      refine R_iload_n1 (pc := 41) dX10_pathTo_41 ?_
      refine R_iload4 (pc := 42) dX10_pathTo_42 ?_
      refine R_iload4 (pc := 44) dX10_pathTo_44 ?_
      refine R_callS1 (pc := 46) cal_X10_sizeOf kw954 kw955 dX10_pathTo_46 c_X10_sizeOf (by decide) (Nat.le_of_ble_eq_true rfl) ?_
      rintro _ _ ⟨rfl, rfl⟩
      rw [sz_bp hk2]
      refine R_callV3 (pc := 49) (T := TX10) cal_X10_goes kw974 kw976 kw36 dX10_pathTo_49 (c_X10_goes hM1 hn hsn hi (by omega) (by omega) (ln_pos (by omega))) (by decide) (Nat.le_of_ble_eq_true rfl) (ci := 8) rfl (by assumption) ?_
      rintro _ h49 ⟨rfl, e49⟩
      have q49 : h49 = mput h u (gM M (zgo M.2.1 sn i k).2.1 (zgo M.2.1 sn i k).2.2) := by rw [mstep_M q1 e49, gM_gM]; rfl
      have hM49 := mAt q49
      have mo49 := hM49.o
      have ms49 := hM49.s
      have mb49 := hM49.b
      have mt49 := hM49.t
      have mn49 := hM49.n
      have mc49 := hM49.c
      refine R_ifb_eq (pc := 52) 66 dX10_pathTo_52 (by decide) (fun c_52 => ?_) (fun c_52 => ?_)
      · skip
        have c_52 : ¬ (zgo M.2.1 sn i k).1 = true := c_52
        refine R_iload4 (pc := 66) dX10_pathTo_66 ?_
        refine R_callS1 (pc := 68) cal_X10_pathBehind kw1142 kw1143 dX10_pathTo_68 (c_X10_pathBehind (by omega)) (by decide) (Nat.le_of_ble_eq_true rfl) ?_
        rintro _ _ ⟨rfl, rfl⟩
        rw [zpb_bp, Nat.mul_one, Nat.add_zero]
        refine R_istore4 (pc := 71) dX10_pathTo_71 rfl (by decide) ?_
        refine R_goto (pc := 73) 23 dX10_pathTo_73 (by decide) ?_
        rw [z_ptk_s, if_pos hle, if_neg (fun z => c_52 z.1)]
        exact ih (k + 1) _ _ _ (by omega) (by omega) q49
      · skip
        have c_52 : (zgo M.2.1 sn i k).1 = true := c_52
        refine R_aload_n0 (pc := 55) dX10_pathTo_55 ?_
        refine G_X10_104 (pc := 56) dX10_pathTo_56 (by assumption) ?_
        rw [gM_7]
        refine R_iload_n2 (pc := 59) dX10_pathTo_59 ?_
        refine R_icmp_ne (pc := 60) 66 dX10_pathTo_60 (by decide) (fun c_60 => ?_) (fun c_60 => ?_)
        · skip
          refine R_iload4 (pc := 66) dX10_pathTo_66 ?_
          refine R_callS1 (pc := 68) cal_X10_pathBehind kw1142 kw1143 dX10_pathTo_68 (c_X10_pathBehind (by omega)) (by decide) (Nat.le_of_ble_eq_true rfl) ?_
          rintro _ _ ⟨rfl, rfl⟩
          rw [zpb_bp, Nat.mul_one, Nat.add_zero]
          refine R_istore4 (pc := 71) dX10_pathTo_71 rfl (by decide) ?_
          refine R_goto (pc := 73) 23 dX10_pathTo_73 (by decide) ?_
          rw [z_ptk_s, if_pos hle, if_neg (fun z => c_60 z.2)]
          exact ih (k + 1) _ _ _ (by omega) (by omega) q49
        · skip
          refine R_iload4 (pc := 63) dX10_pathTo_63 ?_
          refine R_iret (pc := 65) rfl rfl dX10_pathTo_65 ?_
          have hz : z_ptk M.2.1 sn i y mo (n + 1) k = k := by rw [z_ptk_s, if_pos hle, if_pos ⟨c_52, c_60⟩]
          exact ⟨_, _, by rw [hz], fun _ => by rw [hz], q49⟩

theorem q_go (hM : MAt h u M) : h = mput h u (gM M (M.1 7) (M.1 8)) := by
  have e : gM M (M.1 7) (M.1 8) = M := by
    show (upd (upd M.1 7 (M.1 7)) 8 (M.1 8), M.2) = M
    rw [upd_id, upd_id]
  rw [e]
  exact (mput_self hM).symm
set_option maxHeartbeats 4000000 in
set_option maxRecDepth 100000 in
theorem c_X10_pathTo (hM : MAt h u M) {sn : Nat} (hn : sn ≤ 8) (hsn : M.2.1 10 = nI sn) {i y : Nat} (hi : i < 8) {mo : Int32} : Spec l D cA N0 m_X10_pathTo 4 0 0 [.ref u, .int (nI i), .int (nI y), .int mo] h (fun a h' => ∃ x d, a = some (.int (nI (bp (z_path M.2.1 sn i y mo)))) ∧ (¬ (z_path M.2.1 sn i y mo) = 0 → d = (zgo M.2.1 sn i (z_path M.2.1 sn i y mo)).2.2) ∧ h' = mput h u (gM M x d)) := by
  refine Spec.of (L := [some (.ref u), some (.int (nI i)), some (.int (nI y)), some (.int mo), none]) (by decide) rfl (Nat.le_of_ble_eq_true rfl) ?_
  have q0 : h = mput h u M := (mput_self hM).symm
  have mo0 := hM.o
  have ms0 := hM.s
  have mb0 := hM.b
  have mt0 := hM.t
  have mn0 := hM.n
  have mc0 := hM.c
  refine R_aload_n0 (pc := 0) dX10_pathTo_0 ?_
  refine R_iload_n1 (pc := 1) dX10_pathTo_1 ?_
  refine R_callV1 (pc := 2) (T := TX10) cal_X10_floats kw962 kw964 kw33 dX10_pathTo_2 (c_X10_floats hM (by assumption)) (by decide) (Nat.le_of_ble_eq_true rfl) (ci := 8) rfl (by assumption) ?_
  rintro _ _ ⟨rfl, rfl⟩
  refine R_ifb_eq (pc := 5) 18 dX10_pathTo_5 (by decide) (fun c_5 => ?_) (fun c_5 => ?_)
  · skip
    refine R_iconst (pc := 18) (v := 0) dX10_pathTo_18 (by decide) ?_
    refine R_iret (pc := 19) rfl rfl dX10_pathTo_19 ?_
    have hz : z_path M.2.1 sn i y mo = 0 := by rw [z_path, if_neg (fun z => c_5 z.1)]
    exact ⟨_, _, by rw [hz, bp_0]; rfl, fun z => absurd hz z, q_go hM⟩
  · skip
    refine R_aload_n0 (pc := 8) dX10_pathTo_8 ?_
    refine R_iload_n1 (pc := 9) dX10_pathTo_9 ?_
    refine R_iconst (pc := 10) (v := 1) dX10_pathTo_10 (by decide) ?_
    refine R_callV2 (pc := 11) (T := TX10) cal_X10_get kw899 kw901 kw25 dX10_pathTo_11 (c_X10_get hM (by assumption) (k := 1) (by decide)) (by decide) (Nat.le_of_ble_eq_true rfl) (ci := 8) rfl (by assumption) ?_
    rintro _ _ ⟨rfl, rfl⟩
    refine R_iload_n2 (pc := 14) dX10_pathTo_14 ?_
    refine R_icmp_ne (pc := 15) 20 dX10_pathTo_15 (by decide) (fun c_15 => ?_) (fun c_15 => ?_)
    · skip
      refine R_iconst (pc := 20) (v := 1) dX10_pathTo_20 (by decide) ?_
      refine R_istore4 (pc := 21) dX10_pathTo_21 rfl (by decide) ?_
      rw [z_path, if_pos ⟨c_5, c_15⟩]
      refine Run.cast (L_X10_pathTo hM hn hsn hi 1092 1 _ _ _ rfl (by decide) (q_go hM)) rfl rfl rfl rfl ?_ rfl
      rw [show bp 1 = 1 from by rw [bp_s (by decide), show (1 - 1) / 3 = 0 from rfl, bp_0]]
      rfl
    · skip
      refine R_iconst (pc := 18) (v := 0) dX10_pathTo_18 (by decide) ?_
      refine R_iret (pc := 19) rfl rfl dX10_pathTo_19 ?_
      have hz : z_path M.2.1 sn i y mo = 0 := by rw [z_path, if_neg (fun z => z.2 c_15)]
      exact ⟨_, _, by rw [hz, bp_0]; rfl, fun z => absurd hz z, q_go hM⟩

set_option maxHeartbeats 4000000 in
set_option maxRecDepth 100000 in
theorem L_X10_recB (hM : MAt h u M) {m : Nat} (hm : m ≤ 5) (hmu : M.1 3 = nI m) : ∀ (n i : Nat) (h1 : AH), i + n = 545 → h1 = mput h u (bM M (z_cp M.2.2.1 M.2.1 m i)) → RunM l D cA N0 m_X10_record 0 0 0 (fun a h' => a = none ∧ h' = mput h u (z_recB M m)) h1 0 0 52 [some (.ref u), some (.int (nI i))] [] := by
  intro n
  induction n with
  | zero =>
    intro i h1 hi q1
    have hM1 := mAt q1
    have mo1 := hM1.o
    have ms1 := hM1.s
    have mb1 := hM1.b
    have mt1 := hM1.t
    have mn1 := hM1.n
    have mc1 := hM1.c
    refine R_iload_n1 (pc := 52) dX10_record_52 ?_
    refine R_sipush (pc := 53) (v := 545) dX10_record_53 (by decide) ?_
    refine R_icmp_ge (pc := 56) 86 dX10_record_56 (by decide) (fun c_56 => ?_) (fun c_56 => absurd (by rw [show i = 545 by omega]; decide) c_56)
    refine R_aload_n0 (pc := 86) dX10_record_86 ?_
    refine R_dup (pc := 87) dX10_record_87 rfl ?_
    refine G_X10_29 (pc := 88) dX10_record_88 (by assumption) ?_
    refine R_iconst (pc := 91) (v := 1) dX10_record_91 (by decide) ?_
    refine R_iadd (pc := 92) dX10_record_92 ?_
    refine P_X10_29 (pc := 93) dX10_record_93 (by assumption) (fun h1 e1 f1 => ?_)
    have q1 := mstep_o q1 e1
    have hM1 := mAt q1
    have mo1 := hM1.o
    have ms1 := hM1.s
    have mb1 := hM1.b
    have mt1 := hM1.t
    have mn1 := hM1.n
    have mc1 := hM1.c
    refine R_vret (pc := 96) rfl dX10_record_96 ?_
    refine ⟨rfl, ?_⟩
    rw [q1, z_recB, show (bM M (z_cp M.2.2.1 M.2.1 m i)).1 3 = nI m from hmu, nI_1, show i = 545 by omega]
  | succ n ih =>
    intro i h1 hi q1
    have hM1 := mAt q1
    have mo1 := hM1.o
    have ms1 := hM1.s
    have mb1 := hM1.b
    have mt1 := hM1.t
    have mn1 := hM1.n
    have mc1 := hM1.c
    refine R_iload_n1 (pc := 52) dX10_record_52 ?_
    refine R_sipush (pc := 53) (v := 545) dX10_record_53 (by decide) ?_
    refine R_icmp_ge (pc := 56) 86 dX10_record_56 (by decide) (fun c_56 => absurd c_56 (nI_ge (show i < 545 by omega) (by decide))) (fun c_56 => ?_)
    refine R_aload_n0 (pc := 59) dX10_record_59 ?_
    refine G_X10_13 (pc := 60) dX10_record_60 (by assumption) ?_
    refine R_sipush (pc := 63) (v := 545) dX10_record_63 (by decide) ?_
    refine R_aload_n0 (pc := 66) dX10_record_66 ?_
    refine G_X10_29 (pc := 67) dX10_record_67 (by assumption) ?_
    refine R_imul (pc := 70) dX10_record_70 ?_
    refine R_iload_n1 (pc := 71) dX10_record_71 ?_
    refine R_iadd (pc := 72) dX10_record_72 ?_
    refine R_aload_n0 (pc := 73) dX10_record_73 ?_
    refine G_X10_7 (pc := 74) dX10_record_74 (by assumption) ?_
    refine R_iload_n1 (pc := 77) dX10_record_77 ?_
    rw [show (bM M (z_cp M.2.2.1 M.2.1 m i)).1 3 = nI m from hmu, show (545 : Int32) * nI m + nI i = nI (545 * m + i) from by rw [show (545 : Int32) = nI 545 from rfl, pk_mul, nI_add]]
    refine R_iald (pc := 78) dX10_record_78 (by assumption) (in_n (show i < 545 by omega) (by decide)) ?_
    rw [nI_clamp (show i < 2 ^ 31 by omega)]
    refine R_iastF (pc := 79) dX10_record_79 (by assumption) (in_n (show 545 * m + i < 3270 by omega) (by decide)) (fun h1 e1 f1 => ?_)
    rw [nI_clamp (show 545 * m + i < 2 ^ 31 by omega)] at e1 f1
    have q1 := mstep_b q1 e1
    have hM1 := mAt q1
    have mo1 := hM1.o
    have ms1 := hM1.s
    have mb1 := hM1.b
    have mt1 := hM1.t
    have mn1 := hM1.n
    have mc1 := hM1.c
    refine R_iinc1 (pc := 80) dX10_record_80 rfl (by decide) ?_
    refine R_goto (pc := 83) 52 dX10_record_83 (by decide) ?_
    rw [nI_s]
    exact ih (i + 1) _ (by omega) (by rw [q1, bM_bM]; exact congrArg (fun z => mput h u (bM M z)) (z_cp_s _ _ _ _))

set_option maxHeartbeats 4000000 in
set_option maxRecDepth 100000 in
theorem L_X10_recA (hM : MAt h u M) (hmu : M.1 3 = nI 6) : ∀ (n i : Nat) (h1 : AH), i + n = 2725 → h1 = mput h u (bM M (z_sh M.2.2.1 i)) → RunM l D cA N0 m_X10_record 0 0 0 (fun a h' => a = none ∧ h' = mput h u (z_recB (fM (bM M (z_sh M.2.2.1 2725)) 3 (nI 5)) 5)) h1 0 0 11 [some (.ref u), some (.int (nI i))] [] := by
  intro n
  induction n with
  | zero =>
    intro i h1 hi q1
    have hM1 := mAt q1
    have mo1 := hM1.o
    have ms1 := hM1.s
    have mb1 := hM1.b
    have mt1 := hM1.t
    have mn1 := hM1.n
    have mc1 := hM1.c
    refine R_iload_n1 (pc := 11) dX10_record_11 ?_
    refine R_sipush (pc := 12) (v := 2725) dX10_record_12 (by decide) ?_
    refine R_icmp_ge (pc := 15) 40 dX10_record_15 (by decide) (fun c_15 => ?_) (fun c_15 => absurd (by rw [show i = 2725 by omega]; decide) c_15)
    refine R_aload_n0 (pc := 40) dX10_record_40 ?_
    refine R_dup (pc := 41) dX10_record_41 rfl ?_
    refine G_X10_29 (pc := 42) dX10_record_42 (by assumption) ?_
    refine R_iconst (pc := 45) (v := 1) dX10_record_45 (by decide) ?_
    refine R_isub (pc := 46) dX10_record_46 ?_
    refine P_X10_29 (pc := 47) dX10_record_47 (by assumption) (fun h1 e1 f1 => ?_)
    have q1 := mstep_o q1 e1
    have hM1 := mAt q1
    have mo1 := hM1.o
    have ms1 := hM1.s
    have mb1 := hM1.b
    have mt1 := hM1.t
    have mn1 := hM1.n
    have mc1 := hM1.c
    refine R_iconst (pc := 50) (v := 0) dX10_record_50 (by decide) ?_
    refine R_istore_n1 (pc := 51) dX10_record_51 rfl (by decide) ?_
    rw [show (bM M (z_sh M.2.2.1 i)).1 3 - 1 = nI 5 from by show M.1 3 - 1 = nI 5; rw [hmu]; decide, show i = 2725 by omega] at q1
    have hMx := mAt q1
    refine R_post (fun a h9 q9 => ⟨q9.1, ?_⟩) (L_X10_recB hMx (m := 5) (by decide) rfl 545 0 _ rfl ?_)
    · rw [q9.2, q1, mput_mput]
    · exact (by rw [z_cp_0]; exact (mput_self hMx).symm)
  | succ n ih =>
    intro i h1 hi q1
    have hM1 := mAt q1
    have mo1 := hM1.o
    have ms1 := hM1.s
    have mb1 := hM1.b
    have mt1 := hM1.t
    have mn1 := hM1.n
    have mc1 := hM1.c
    refine R_iload_n1 (pc := 11) dX10_record_11 ?_
    refine R_sipush (pc := 12) (v := 2725) dX10_record_12 (by decide) ?_
    refine R_icmp_ge (pc := 15) 40 dX10_record_15 (by decide) (fun c_15 => absurd c_15 (nI_ge (show i < 2725 by omega) (by decide))) (fun c_15 => ?_)
    refine R_aload_n0 (pc := 18) dX10_record_18 ?_
    refine G_X10_13 (pc := 19) dX10_record_19 (by assumption) ?_
    refine R_iload_n1 (pc := 22) dX10_record_22 ?_
    refine R_aload_n0 (pc := 23) dX10_record_23 ?_
    refine G_X10_13 (pc := 24) dX10_record_24 (by assumption) ?_
    refine R_sipush (pc := 27) (v := 545) dX10_record_27 (by decide) ?_
    refine R_iload_n1 (pc := 30) dX10_record_30 ?_
    refine R_iadd (pc := 31) dX10_record_31 ?_
    rw [show (545 : Int32) + nI i = nI (545 + i) from nI_add 545 i]
    refine R_iald (pc := 32) dX10_record_32 (by assumption) (in_n (show 545 + i < 3270 by omega) (by decide)) ?_
    rw [nI_clamp (show 545 + i < 2 ^ 31 by omega)]
    refine R_iastF (pc := 33) dX10_record_33 (by assumption) (in_n (show i < 3270 by omega) (by decide)) (fun h1 e1 f1 => ?_)
    rw [nI_clamp (show i < 2 ^ 31 by omega)] at e1 f1
    have q1 := mstep_b q1 e1
    have hM1 := mAt q1
    have mo1 := hM1.o
    have ms1 := hM1.s
    have mb1 := hM1.b
    have mt1 := hM1.t
    have mn1 := hM1.n
    have mc1 := hM1.c
    refine R_iinc1 (pc := 34) dX10_record_34 rfl (by decide) ?_
    refine R_goto (pc := 37) 11 dX10_record_37 (by decide) ?_
    rw [nI_s]
    exact ih (i + 1) _ (by omega) (by rw [q1, bM_bM]; exact congrArg (fun z => mput h u (bM M z)) (z_sh_s _ _))

set_option maxHeartbeats 4000000 in
set_option maxRecDepth 100000 in
theorem c_X10_record (hM : MAt h u M) {m : Nat} (hm : m ≤ 6) (hmu : M.1 3 = nI m)  : Spec l D cA N0 m_X10_record 0 0 0 [.ref u] h (fun r h' => r = none ∧ h' = mput h u (z_rec M m)) := by
  refine Spec.of (L := [some (.ref u), none]) (by decide) rfl (Nat.le_of_ble_eq_true rfl) ?_
  have q0 : h = mput h u M := (mput_self hM).symm
  have mo0 := hM.o
  have ms0 := hM.s
  have mb0 := hM.b
  have mt0 := hM.t
  have mn0 := hM.n
  have mc0 := hM.c
  refine R_aload_n0 (pc := 0) dX10_record_0 ?_
  refine G_X10_29 (pc := 1) dX10_record_1 (by assumption) ?_
  rw [hmu]
  refine R_bipush (pc := 4) (v := 6) dX10_record_4 (by decide) ?_
  refine R_icmp_ne (pc := 6) 50 dX10_record_6 (by decide) (fun c_6 => ?_) (fun c_6 => ?_)
  · skip
    have h6 : ¬ m = 6 := fun z => c_6 (by rw [z]; rfl)
    refine R_iconst (pc := 50) (v := 0) dX10_record_50 (by decide) ?_
    refine R_istore_n1 (pc := 51) dX10_record_51 rfl (by decide) ?_
    rw [z_rec, if_neg h6]
    exact L_X10_recB hM (by omega) hmu 545 0 h rfl (by rw [z_cp_0]; exact q0)
  · skip
    have h6 : m = 6 := (nI_eq (b := 6) (by omega) (by decide)).mp c_6
    refine R_iconst (pc := 9) (v := 0) dX10_record_9 (by decide) ?_
    refine R_istore_n1 (pc := 10) dX10_record_10 rfl (by decide) ?_
    subst h6
    rw [z_rec, if_pos rfl]
    exact L_X10_recA hM hmu 2725 0 h rfl (by rw [z_sh_0]; exact q0)

def z_act (M : Mm) (m : Nat) : Mm := if M.1 6 = 0 then z_rec M m else M
set_option maxHeartbeats 4000000 in
set_option maxRecDepth 100000 in
theorem c_X10_act (hM : MAt h u M) {m : Nat} (hm : m ≤ 6) (hmu : M.1 3 = nI m)  : Spec l D cA N0 m_X10_act 1 0 0 [.ref u] h (fun r h' => r = none ∧ h' = mput h u (z_act M m)) := by
  refine Spec.of (L := [some (.ref u)]) (by decide) rfl (Nat.le_of_ble_eq_true rfl) ?_
  have q0 : h = mput h u M := (mput_self hM).symm
  have mo0 := hM.o
  have ms0 := hM.s
  have mb0 := hM.b
  have mt0 := hM.t
  have mn0 := hM.n
  have mc0 := hM.c
  refine R_aload_n0 (pc := 0) dX10_act_0 ?_
  refine G_X10_33 (pc := 1) dX10_act_1 (by assumption) ?_
  refine R_if_ne (pc := 4) 11 dX10_act_4 (by decide) (fun c_4 => ?_) (fun c_4 => ?_)
  · skip
    refine R_vret (pc := 11) rfl dX10_act_11 ?_
    exact ⟨rfl, by rw [z_act, if_neg c_4]; exact q0⟩
  · skip
    refine R_aload_n0 (pc := 7) dX10_act_7 ?_
    refine R_callV0 (pc := 8) (T := TX10) cal_X10_record kw907 kw909 kw27 dX10_act_8 (c_X10_record hM (by assumption) (by assumption)) (by decide) (Nat.le_of_ble_eq_true rfl) (ci := 8) rfl (by assumption) ?_
    rintro _ h1 ⟨rfl, e1⟩
    have q1 := mstep_M q0 e1
    have hM1 := mAt q1
    have mo1 := hM1.o
    have ms1 := hM1.s
    have mb1 := hM1.b
    have mt1 := hM1.t
    have mn1 := hM1.n
    have mc1 := hM1.c
    refine R_vret (pc := 11) rfl dX10_act_11 ?_
    exact ⟨rfl, by rw [z_act, if_pos c_4]; exact q1⟩

end LV26
