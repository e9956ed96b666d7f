/-! THE REFERENCE: ways and lines -/
def gM (M : Mm) (x d : Int32) : Mm := fM (fM M 7 x) 8 d
theorem upd_upd (f : Nat → Int32) (k : Nat) (a b : Int32) : upd (upd f k a) k b = upd f k b := by
  funext j
  simp only [upd]
  split <;> rfl
theorem upd_cm (f : Nat → Int32) {k l : Nat} (h : k ≠ l) (a b : Int32) : upd (upd f k a) l b = upd (upd f l b) k a := by
  funext j
  simp only [upd]
  split
  · rename_i e
    subst e
    rw [if_neg (fun z => h z.symm)]
  · rfl
theorem upd_id (f : Nat → Int32) (k : Nat) : upd f k (f k) = f := by
  funext j
  simp only [upd]
  split
  · rename_i e; rw [e]
  · rfl
theorem fM_fM (M : Mm) (k : Nat) (a b : Int32) : fM (fM M k a) k b = fM M k b := by
  show (upd (upd M.1 k a) k b, M.2) = _
  rw [upd_upd]; rfl
theorem fM_gM8 (M : Mm) (x d y : Int32) : fM (gM M x d) 8 y = gM M x y := fM_fM _ _ _ _
theorem fM_gM7 (M : Mm) (x d y : Int32) : fM (gM M x d) 7 y = gM M y d := by
  show (upd (upd (upd M.1 7 x) 8 d) 7 y, M.2) = (upd (upd M.1 7 y) 8 d, M.2)
  rw [upd_cm _ (show (8 : Nat) ≠ 7 by decide), upd_upd]
theorem gM_7 (M : Mm) (x d : Int32) : (gM M x d).1 7 = x := rfl
theorem gM_8 (M : Mm) (x d : Int32) : (gM M x d).1 8 = d := rfl
theorem ge0 {x : Int32} (h : 0 ≤ x) {n : Nat} (hn : n < 2 ^ 30) (h2 : x ≤ nI n) : ∃ k, k ≤ n ∧ x = nI k := by
  obtain ⟨k, hk, e⟩ := i_nI (n := n + 1) h (by rw [← nI_1, Int32.lt_iff_toInt_lt]; rw [Int32.le_iff_toInt_le] at h2; rw [nI_1, nI_toInt (by omega)]; rw [nI_toInt (by omega)] at h2; omega) (by omega)
  exact ⟨k, by omega, e⟩
theorem z_next_rng (x d : Int32) : z_next x d < 0 ∨ ∃ k, k < 81 ∧ z_next x d = nI k := by
  unfold z_next
  split
  · rename_i h
    obtain ⟨a, ha, ea⟩ := ge0 (n := 8) h.1.1 (by decide) h.1.2
    obtain ⟨b, hb, eb⟩ := ge0 (n := 8) h.2.1 (by decide) h.2.2
    refine Or.inr ⟨9 * a + b, by omega, ?_⟩
    rw [ea, eb, show (9 : Int32) = nI 9 from rfl, pk_mul, nI_add]
  · exact Or.inl (by decide)
theorem z_next_in {x d : Int32} (h : ¬ z_next x d < 0) : ∃ k, k < 81 ∧ z_next x d = nI k := (z_next_rng x d).resolve_left h
def z_go (s : Nat → Int32) (sn i p : Nat) : Nat → Int32 → Int32 → Bool × Int32 × Int32
  | 0, x, d => (true, x, d)
  | r + 1, x, d => if nI (p / 10 ^ r % 10) = 1 then (if z_next x d < 0 ∨ (¬ z_next x d = gx s i 1 ∧ ¬ z_free s sn (z_next x d).toNatClampNeg = true) then (false, z_next x d, d) else z_go s sn i p r (z_next x d) d) else z_go s sn i p r x (d + (if nI (p / 10 ^ r % 10) = 2 then 1 else 5) - (d + (if nI (p / 10 ^ r % 10) = 2 then 1 else 5)) / 6 * 6)
theorem z_go_s (s : Nat → Int32) (sn i p r : Nat) (x d : Int32) : z_go s sn i p (r + 1) x d = if nI (p / 10 ^ r % 10) = 1 then (if z_next x d < 0 ∨ (¬ z_next x d = gx s i 1 ∧ ¬ z_free s sn (z_next x d).toNatClampNeg = true) then (false, z_next x d, d) else z_go s sn i p r (z_next x d) d) else z_go s sn i p r x (d + (if nI (p / 10 ^ r % 10) = 2 then 1 else 5) - (d + (if nI (p / 10 ^ r % 10) = 2 then 1 else 5)) / 6 * 6) := rfl
def z_line (s : Nat → Int32) (sn : Nat) (d : Int32) : Nat → Nat → Int32 → Int32 × Nat
  | 0, f, _ => (-1, f)
  | k + 1, f, x => if z_next x d < 0 ∨ s (12 + (z_next x d).toNatClampNeg) = 1 then (-1, f) else match z_on s sn (z_next x d) with
    | none => z_line s sn d k (f + 1) (z_next x d)
    | some j => (nI j, f)
theorem z_line_s (s : Nat → Int32) (sn : Nat) (d : Int32) (k f : Nat) (x : Int32) : z_line s sn d (k + 1) f x = if z_next x d < 0 ∨ s (12 + (z_next x d).toNatClampNeg) = 1 then (-1, f) else match z_on s sn (z_next x d) with
    | none => z_line s sn d k (f + 1) (z_next x d)
    | some j => (nI j, f) := rfl
def z_wy (s : Nat → Int32) (i : Nat) (side : Int32) (k : Nat) : Int32 := gx s i 2 + (if side = 0 then 4 else 1) + nI k - (gx s i 2 + (if side = 0 then 4 else 1) + nI k) / 6 * 6
def z_ln (s : Nat → Int32) (sn i : Nat) (w : Int32) : Int32 × Nat := z_line s sn w 3 1 (gx s i 1)
def z_fr (s : Nat → Int32) (sn i : Nat) (side : Int32) (t : Nat) : Nat → Nat → Int32
  | 0, _ => 0
  | n + 1, k => if (z_ln s sn i (z_wy s i side k)).1 = nI t then nI (z_ln s sn i (z_wy s i side k)).2 else z_fr s sn i side t n (k + 1)
theorem z_fr_s (s : Nat → Int32) (sn i : Nat) (side : Int32) (t n k : Nat) : z_fr s sn i side t (n + 1) k = if (z_ln s sn i (z_wy s i side k)).1 = nI t then nI (z_ln s sn i (z_wy s i side k)).2 else z_fr s sn i side t n (k + 1) := rfl
def z_far (s : Nat → Int32) (sn i : Nat) (side : Int32) (t : Nat) : Int32 := if 0 ≤ gx s i 1 ∧ ¬ gx s i 0 = gx s t 0 then z_fr s sn i side t 2 0 else 0
theorem z_on_cases (s : Nat → Int32) (sn : Nat) (x : Int32) : z_on s sn x = none ∨ ∃ j, j < sn ∧ gx s j 1 = x ∧ z_on s sn x = some j := by
  rcases ff_cases (fun i => decide (gx s i 1 = x)) sn 0 with q | ⟨j, h1, h2, h3, h4⟩
  · exact Or.inl q
  · exact Or.inr ⟨j, by omega, of_decide_eq_true h3, h4⟩
section LV25
variable {l : Launch} {D : va_G} {cA : Nat → ClassId} {N0 : Nat} {h : AH} {u : Nat} {M : Mm}
theorem c_X10_isFreeY {sn : Nat} {y : Int32} (hM : MAt h u M) (hn : sn ≤ 8) (hsn : M.2.1 10 = nI sn) (hy : ∃ k, k < 81 ∧ y = nI k) : Spec l D cA N0 m_X10_isFree 2 0 0 [.ref u, .int y] h (fun r h' => r = some (.int (bI (z_free M.2.1 sn y.toNatClampNeg = true))) ∧ h' = h) := by
  obtain ⟨k, hk, rfl⟩ := hy
  rw [nI_clamp (show k < 2 ^ 31 by omega)]
  exact c_X10_isFree hM hn hsn hk
set_option maxHeartbeats 4000000 in
set_option maxRecDepth 100000 in
theorem L_X10_goes2 (hM : MAt h u M) {sn : Nat} (hn : sn ≤ 8) (hsn : M.2.1 10 = nI sn) {i p k : Nat} (hi : i < 8) (hp : p < 2 ^ 31) (hk : k ≤ 9) : ∀ (r j : Nat) (x d : Int32) (h1 : AH) (q : Option Value), j + r = k → h1 = mput h u (gM M x d) → q = none ∨ (∃ z, q = some (.int z)) → RunM l D cA N0 m_X10_goes 3 0 0 (fun a h' => a = some (.int (bI ((z_go M.2.1 sn i p r x d).1 = true))) ∧ h' = mput h u (gM M (z_go M.2.1 sn i p r x d).2.1 (z_go M.2.1 sn i p r x d).2.2)) h1 0 0 52 [some (.ref u), some (.int (nI i)), some (.int (nI p)), some (.int (nI k)), some (.int (gx M.2.1 i 1)), some (.int (nI (10 ^ r / 10))), some (.int (nI j)), q] [] := by
  intro r
  induction r with
  | zero =>
    intro j x d h1 q hj q1 hq
    have hM1 := mAt q1
    have mo1 := hM1.o
    have ms1 := hM1.s
    have mb1 := hM1.b
    have mt1 := hM1.t
    have mn1 := hM1.n
    have mc1 := hM1.c
    rcases hq with rfl | ⟨z, rfl⟩
    · skip
      refine R_iload6 (pc := 52) dX10_goes_52 ?_
      refine R_iload_n3 (pc := 54) dX10_goes_54 ?_
      refine R_icmp_ge (pc := 55) 153 dX10_goes_55 (by decide) (fun c_55 => ?_) (fun c_55 => absurd (by rw [show j = k by omega]; exact Int32.le_refl _) c_55)
      refine R_iconst (pc := 153) (v := 1) dX10_goes_153 (by decide) ?_
      refine R_iret (pc := 154) rfl rfl dX10_goes_154 ?_
      exact ⟨rfl, q1⟩
    · skip
      refine R_iload6 (pc := 52) dX10_goes_52 ?_
      refine R_iload_n3 (pc := 54) dX10_goes_54 ?_
      refine R_icmp_ge (pc := 55) 153 dX10_goes_55 (by decide) (fun c_55 => ?_) (fun c_55 => absurd (by rw [show j = k by omega]; exact Int32.le_refl _) c_55)
      refine R_iconst (pc := 153) (v := 1) dX10_goes_153 (by decide) ?_
      refine R_iret (pc := 154) rfl rfl dX10_goes_154 ?_
      exact ⟨rfl, q1⟩
  | succ r ih =>
    intro j x d h1 q hj q1 hq
    have hM1 := mAt q1
    have mo1 := hM1.o
    have ms1 := hM1.s
    have mb1 := hM1.b
    have mt1 := hM1.t
    have mn1 := hM1.n
    have mc1 := hM1.c
    have hpw : 10 ^ r < 2 ^ 31 := Nat.lt_of_le_of_lt (Nat.pow_le_pow_right (by decide) (show r ≤ 8 by omega)) (by decide)
    have hnz : ¬ nI (10 ^ r) = 0 := fun z => absurd ((nI_eq hpw (by decide)).mp z) (Nat.ne_of_gt (Nat.pow_pos (by decide)))
    rcases hq with rfl | ⟨z, rfl⟩
    · skip
      refine R_iload6 (pc := 52) dX10_goes_52 ?_
      refine R_iload_n3 (pc := 54) dX10_goes_54 ?_
      refine R_icmp_ge (pc := 55) 153 dX10_goes_55 (by decide) (fun c_55 => absurd c_55 (nI_ge (show j < k by omega) (by omega))) (fun c_55 => ?_)
      rw [show 10 ^ (r + 1) / 10 = 10 ^ r from by rw [Nat.pow_succ, Nat.mul_div_cancel _ (by decide)]]
      refine R_iload_n2 (pc := 58) dX10_goes_58 ?_
      refine R_iload5 (pc := 59) dX10_goes_59 ?_
      refine R_idiv (pc := 61) dX10_goes_61 hnz ?_
      rw [pk_div hp (Nat.pow_pos (by decide)) hpw]
      refine R_bipush (pc := 62) (v := 10) dX10_goes_62 (by decide) ?_
      refine R_irem (pc := 64) dX10_goes_64 (by decide) ?_
      rw [nI_r10 (Nat.lt_of_le_of_lt (Nat.div_le_self _ _) hp)]
      refine R_istore7 (pc := 65) dX10_goes_65 rfl (by decide) ?_
      refine R_iload5 (pc := 67) dX10_goes_67 ?_
      refine R_bipush (pc := 69) (v := 10) dX10_goes_69 (by decide) ?_
      refine R_idiv (pc := 71) dX10_goes_71 (by decide) ?_
      rw [nI_d10 hpw]
      refine R_istore5 (pc := 72) dX10_goes_72 rfl (by decide) ?_
      refine R_iload7 (pc := 74) dX10_goes_74 ?_
      refine R_iconst (pc := 76) (v := 1) dX10_goes_76 (by decide) ?_
      refine R_icmp_ne (pc := 77) 124 dX10_goes_77 (by decide) (fun c_77 => ?_) (fun c_77 => ?_)
      · skip
        refine R_aload_n0 (pc := 124) dX10_goes_124 ?_
        refine R_aload_n0 (pc := 125) dX10_goes_125 ?_
        refine G_X10_107 (pc := 126) dX10_goes_126 (by assumption) ?_
        rw [gM_8]
        refine R_iload7 (pc := 129) dX10_goes_129 ?_
        refine R_iconst (pc := 131) (v := 2) dX10_goes_131 (by decide) ?_
        refine R_icmp_ne (pc := 132) 139 dX10_goes_132 (by decide) (fun c_132 => ?_) (fun c_132 => ?_)
        · skip
          refine R_iconst (pc := 139) (v := 5) dX10_goes_139 (by decide) ?_
          refine R_iadd (pc := 140) dX10_goes_140 ?_
          refine R_bipush (pc := 141) (v := 6) dX10_goes_141 (by decide) ?_
          refine R_irem (pc := 143) dX10_goes_143 (by decide) ?_
          refine P_X10_107 (pc := 144) dX10_goes_144 (by assumption) (fun h1 e1 f1 => ?_)
          have q1 := mstep_o q1 e1
          have hM1 := mAt q1
          have mo1 := hM1.o
          have ms1 := hM1.s
          have mb1 := hM1.b
          have mt1 := hM1.t
          have mn1 := hM1.n
          have mc1 := hM1.c
          have q144 := q1
          rw [fM_gM8] at q144
          refine R_iinc6 (pc := 147) dX10_goes_147 rfl (by decide) ?_
          refine R_goto (pc := 150) 52 dX10_goes_150 (by decide) ?_
          rw [nI_s, z_go_s, if_neg c_77, if_neg c_132]
          exact ih (j + 1) _ _ _ _ (by omega) q144 (Or.inr ⟨_, rfl⟩)
        · skip
          refine R_iconst (pc := 135) (v := 1) dX10_goes_135 (by decide) ?_
          refine R_goto (pc := 136) 140 dX10_goes_136 (by decide) ?_
          refine R_iadd (pc := 140) dX10_goes_140 ?_
          refine R_bipush (pc := 141) (v := 6) dX10_goes_141 (by decide) ?_
          refine R_irem (pc := 143) dX10_goes_143 (by decide) ?_
          refine P_X10_107 (pc := 144) dX10_goes_144 (by assumption) (fun h2 e2 f2 => ?_)
          have q2 := mstep_o q1 e2
          have hM2 := mAt q2
          have mo2 := hM2.o
          have ms2 := hM2.s
          have mb2 := hM2.b
          have mt2 := hM2.t
          have mn2 := hM2.n
          have mc2 := hM2.c
          have q144 := q2
          rw [fM_gM8] at q144
          refine R_iinc6 (pc := 147) dX10_goes_147 rfl (by decide) ?_
          refine R_goto (pc := 150) 52 dX10_goes_150 (by decide) ?_
          rw [nI_s, z_go_s, if_neg c_77, if_pos c_132]
          exact ih (j + 1) _ _ _ _ (by omega) q144 (Or.inr ⟨_, rfl⟩)
      · skip
        refine R_aload_n0 (pc := 80) dX10_goes_80 ?_
        refine R_aload_n0 (pc := 81) dX10_goes_81 ?_
        refine G_X10_104 (pc := 82) dX10_goes_82 (by assumption) ?_
        refine R_aload_n0 (pc := 85) dX10_goes_85 ?_
        refine G_X10_107 (pc := 86) dX10_goes_86 (by assumption) ?_
        rw [gM_7, gM_8]
        refine R_callS2 (pc := 89) cal_X10_next kw978 kw979 dX10_goes_89 c_X10_next (by decide) (Nat.le_of_ble_eq_true rfl) ?_
        rintro _ _ ⟨rfl, rfl⟩
        refine P_X10_104 (pc := 92) dX10_goes_92 (by assumption) (fun h3 e3 f3 => ?_)
        have q3 := mstep_o q1 e3
        have hM3 := mAt q3
        have mo3 := hM3.o
        have ms3 := hM3.s
        have mb3 := hM3.b
        have mt3 := hM3.t
        have mn3 := hM3.n
        have mc3 := hM3.c
        have q92 : h3 = mput h u (gM M (z_next x d) d) := by rw [q3, fM_gM7]
        have hM92 := mAt q92
        have mo92 := hM92.o
        have ms92 := hM92.s
        have mb92 := hM92.b
        have mt92 := hM92.t
        have mn92 := hM92.n
        have mc92 := hM92.c
        refine R_aload_n0 (pc := 95) dX10_goes_95 ?_
        refine G_X10_104 (pc := 96) dX10_goes_96 (by assumption) ?_
        rw [gM_7]
        refine R_if_lt (pc := 99) 122 dX10_goes_99 (by decide) (fun c_99 => ?_) (fun c_99 => ?_)
        · skip
          have d_99 := Int32.not_le.mpr c_99
          refine R_iconst (pc := 122) (v := 0) dX10_goes_122 (by decide) ?_
          refine R_iret (pc := 123) rfl rfl dX10_goes_123 ?_
          rw [z_go_s, if_pos c_77, if_pos (Or.inl c_99)]
          exact ⟨rfl, q92⟩
        · skip
          have d_99 := Int32.not_lt.mp c_99
          refine R_aload_n0 (pc := 102) dX10_goes_102 ?_
          refine G_X10_104 (pc := 103) dX10_goes_103 (by assumption) ?_
          rw [gM_7]
          refine R_iload4 (pc := 106) dX10_goes_106 ?_
          refine R_icmp_eq (pc := 108) 147 dX10_goes_108 (by decide) (fun c_108 => ?_) (fun c_108 => ?_)
          · skip
            refine R_iinc6 (pc := 147) dX10_goes_147 rfl (by decide) ?_
            refine R_goto (pc := 150) 52 dX10_goes_150 (by decide) ?_
            rw [nI_s, z_go_s, if_pos c_77, if_neg (fun z => z.elim c_99 (fun z => z.1 c_108))]
            exact ih (j + 1) _ _ _ _ (by omega) q92 (Or.inr ⟨_, rfl⟩)
          · skip
            refine R_aload_n0 (pc := 111) dX10_goes_111 ?_
            refine R_aload_n0 (pc := 112) dX10_goes_112 ?_
            refine G_X10_104 (pc := 113) dX10_goes_113 (by assumption) ?_
            rw [gM_7]
            refine R_callV1 (pc := 116) (T := TX10) cal_X10_isFree kw926 kw928 kw29 dX10_goes_116 (c_X10_isFreeY hM92 hn hsn (z_next_in c_99)) (by decide) (Nat.le_of_ble_eq_true rfl) (ci := 8) rfl (by assumption) ?_
            rintro _ _ ⟨rfl, rfl⟩
            refine R_ifb_ne (pc := 119) 147 dX10_goes_119 (by decide) (fun c_119 => ?_) (fun c_119 => ?_)
            · skip
              refine R_iinc6 (pc := 147) dX10_goes_147 rfl (by decide) ?_
              refine R_goto (pc := 150) 52 dX10_goes_150 (by decide) ?_
              rw [nI_s, z_go_s, if_pos c_77, if_neg (fun z => z.elim c_99 (fun z => z.2 c_119))]
              exact ih (j + 1) _ _ _ _ (by omega) q92 (Or.inr ⟨_, rfl⟩)
            · skip
              refine R_iconst (pc := 122) (v := 0) dX10_goes_122 (by decide) ?_
              refine R_iret (pc := 123) rfl rfl dX10_goes_123 ?_
              rw [z_go_s, if_pos c_77, if_pos (Or.inr ⟨c_108, c_119⟩)]
              exact ⟨rfl, q92⟩
    · skip
      refine R_iload6 (pc := 52) dX10_goes_52 ?_
      refine R_iload_n3 (pc := 54) dX10_goes_54 ?_
      refine R_icmp_ge (pc := 55) 153 dX10_goes_55 (by decide) (fun c_55 => absurd c_55 (nI_ge (show j < k by omega) (by omega))) (fun c_55 => ?_)
      rw [show 10 ^ (r + 1) / 10 = 10 ^ r from by rw [Nat.pow_succ, Nat.mul_div_cancel _ (by decide)]]
      refine R_iload_n2 (pc := 58) dX10_goes_58 ?_
      refine R_iload5 (pc := 59) dX10_goes_59 ?_
      refine R_idiv (pc := 61) dX10_goes_61 hnz ?_
      rw [pk_div hp (Nat.pow_pos (by decide)) hpw]
      refine R_bipush (pc := 62) (v := 10) dX10_goes_62 (by decide) ?_
      refine R_irem (pc := 64) dX10_goes_64 (by decide) ?_
      rw [nI_r10 (Nat.lt_of_le_of_lt (Nat.div_le_self _ _) hp)]
      refine R_istore7 (pc := 65) dX10_goes_65 rfl (by decide) ?_
      refine R_iload5 (pc := 67) dX10_goes_67 ?_
      refine R_bipush (pc := 69) (v := 10) dX10_goes_69 (by decide) ?_
      refine R_idiv (pc := 71) dX10_goes_71 (by decide) ?_
      rw [nI_d10 hpw]
      refine R_istore5 (pc := 72) dX10_goes_72 rfl (by decide) ?_
      refine R_iload7 (pc := 74) dX10_goes_74 ?_
      refine R_iconst (pc := 76) (v := 1) dX10_goes_76 (by decide) ?_
      refine R_icmp_ne (pc := 77) 124 dX10_goes_77 (by decide) (fun c_77 => ?_) (fun c_77 => ?_)
      · skip
        refine R_aload_n0 (pc := 124) dX10_goes_124 ?_
        refine R_aload_n0 (pc := 125) dX10_goes_125 ?_
        refine G_X10_107 (pc := 126) dX10_goes_126 (by assumption) ?_
        rw [gM_8]
        refine R_iload7 (pc := 129) dX10_goes_129 ?_
        refine R_iconst (pc := 131) (v := 2) dX10_goes_131 (by decide) ?_
        refine R_icmp_ne (pc := 132) 139 dX10_goes_132 (by decide) (fun c_132 => ?_) (fun c_132 => ?_)
        · skip
          refine R_iconst (pc := 139) (v := 5) dX10_goes_139 (by decide) ?_
          refine R_iadd (pc := 140) dX10_goes_140 ?_
          refine R_bipush (pc := 141) (v := 6) dX10_goes_141 (by decide) ?_
          refine R_irem (pc := 143) dX10_goes_143 (by decide) ?_
          refine P_X10_107 (pc := 144) dX10_goes_144 (by assumption) (fun h1 e1 f1 => ?_)
          have q1 := mstep_o q1 e1
          have hM1 := mAt q1
          have mo1 := hM1.o
          have ms1 := hM1.s
          have mb1 := hM1.b
          have mt1 := hM1.t
          have mn1 := hM1.n
          have mc1 := hM1.c
          have q144 := q1
          rw [fM_gM8] at q144
          refine R_iinc6 (pc := 147) dX10_goes_147 rfl (by decide) ?_
          refine R_goto (pc := 150) 52 dX10_goes_150 (by decide) ?_
          rw [nI_s, z_go_s, if_neg c_77, if_neg c_132]
          exact ih (j + 1) _ _ _ _ (by omega) q144 (Or.inr ⟨_, rfl⟩)
        · skip
          refine R_iconst (pc := 135) (v := 1) dX10_goes_135 (by decide) ?_
          refine R_goto (pc := 136) 140 dX10_goes_136 (by decide) ?_
          refine R_iadd (pc := 140) dX10_goes_140 ?_
          refine R_bipush (pc := 141) (v := 6) dX10_goes_141 (by decide) ?_
          refine R_irem (pc := 143) dX10_goes_143 (by decide) ?_
          refine P_X10_107 (pc := 144) dX10_goes_144 (by assumption) (fun h2 e2 f2 => ?_)
          have q2 := mstep_o q1 e2
          have hM2 := mAt q2
          have mo2 := hM2.o
          have ms2 := hM2.s
          have mb2 := hM2.b
          have mt2 := hM2.t
          have mn2 := hM2.n
          have mc2 := hM2.c
          have q144 := q2
          rw [fM_gM8] at q144
          refine R_iinc6 (pc := 147) dX10_goes_147 rfl (by decide) ?_
          refine R_goto (pc := 150) 52 dX10_goes_150 (by decide) ?_
          rw [nI_s, z_go_s, if_neg c_77, if_pos c_132]
          exact ih (j + 1) _ _ _ _ (by omega) q144 (Or.inr ⟨_, rfl⟩)
      · skip
        refine R_aload_n0 (pc := 80) dX10_goes_80 ?_
        refine R_aload_n0 (pc := 81) dX10_goes_81 ?_
        refine G_X10_104 (pc := 82) dX10_goes_82 (by assumption) ?_
        refine R_aload_n0 (pc := 85) dX10_goes_85 ?_
        refine G_X10_107 (pc := 86) dX10_goes_86 (by assumption) ?_
        rw [gM_7, gM_8]
        refine R_callS2 (pc := 89) cal_X10_next kw978 kw979 dX10_goes_89 c_X10_next (by decide) (Nat.le_of_ble_eq_true rfl) ?_
        rintro _ _ ⟨rfl, rfl⟩
        refine P_X10_104 (pc := 92) dX10_goes_92 (by assumption) (fun h3 e3 f3 => ?_)
        have q3 := mstep_o q1 e3
        have hM3 := mAt q3
        have mo3 := hM3.o
        have ms3 := hM3.s
        have mb3 := hM3.b
        have mt3 := hM3.t
        have mn3 := hM3.n
        have mc3 := hM3.c
        have q92 : h3 = mput h u (gM M (z_next x d) d) := by rw [q3, fM_gM7]
        have hM92 := mAt q92
        have mo92 := hM92.o
        have ms92 := hM92.s
        have mb92 := hM92.b
        have mt92 := hM92.t
        have mn92 := hM92.n
        have mc92 := hM92.c
        refine R_aload_n0 (pc := 95) dX10_goes_95 ?_
        refine G_X10_104 (pc := 96) dX10_goes_96 (by assumption) ?_
        rw [gM_7]
        refine R_if_lt (pc := 99) 122 dX10_goes_99 (by decide) (fun c_99 => ?_) (fun c_99 => ?_)
        · skip
          have d_99 := Int32.not_le.mpr c_99
          refine R_iconst (pc := 122) (v := 0) dX10_goes_122 (by decide) ?_
          refine R_iret (pc := 123) rfl rfl dX10_goes_123 ?_
          rw [z_go_s, if_pos c_77, if_pos (Or.inl c_99)]
          exact ⟨rfl, q92⟩
        · skip
          have d_99 := Int32.not_lt.mp c_99
          refine R_aload_n0 (pc := 102) dX10_goes_102 ?_
          refine G_X10_104 (pc := 103) dX10_goes_103 (by assumption) ?_
          rw [gM_7]
          refine R_iload4 (pc := 106) dX10_goes_106 ?_
          refine R_icmp_eq (pc := 108) 147 dX10_goes_108 (by decide) (fun c_108 => ?_) (fun c_108 => ?_)
          · skip
            refine R_iinc6 (pc := 147) dX10_goes_147 rfl (by decide) ?_
            refine R_goto (pc := 150) 52 dX10_goes_150 (by decide) ?_
            rw [nI_s, z_go_s, if_pos c_77, if_neg (fun z => z.elim c_99 (fun z => z.1 c_108))]
            exact ih (j + 1) _ _ _ _ (by omega) q92 (Or.inr ⟨_, rfl⟩)
          · skip
            refine R_aload_n0 (pc := 111) dX10_goes_111 ?_
            refine R_aload_n0 (pc := 112) dX10_goes_112 ?_
            refine G_X10_104 (pc := 113) dX10_goes_113 (by assumption) ?_
            rw [gM_7]
            refine R_callV1 (pc := 116) (T := TX10) cal_X10_isFree kw926 kw928 kw29 dX10_goes_116 (c_X10_isFreeY hM92 hn hsn (z_next_in c_99)) (by decide) (Nat.le_of_ble_eq_true rfl) (ci := 8) rfl (by assumption) ?_
            rintro _ _ ⟨rfl, rfl⟩
            refine R_ifb_ne (pc := 119) 147 dX10_goes_119 (by decide) (fun c_119 => ?_) (fun c_119 => ?_)
            · skip
              refine R_iinc6 (pc := 147) dX10_goes_147 rfl (by decide) ?_
              refine R_goto (pc := 150) 52 dX10_goes_150 (by decide) ?_
              rw [nI_s, z_go_s, if_pos c_77, if_neg (fun z => z.elim c_99 (fun z => z.2 c_119))]
              exact ih (j + 1) _ _ _ _ (by omega) q92 (Or.inr ⟨_, rfl⟩)
            · skip
              refine R_iconst (pc := 122) (v := 0) dX10_goes_122 (by decide) ?_
              refine R_iret (pc := 123) rfl rfl dX10_goes_123 ?_
              rw [z_go_s, if_pos c_77, if_pos (Or.inr ⟨c_108, c_119⟩)]
              exact ⟨rfl, q92⟩

set_option maxHeartbeats 4000000 in
set_option maxRecDepth 100000 in
theorem L_X10_goes1 (hM : MAt h u M) {sn : Nat} (hn : sn ≤ 8) (hsn : M.2.1 10 = nI sn) {i p k : Nat} (hi : i < 8) (hp : p < 2 ^ 31) (hk : k ≤ 9) {x d : Int32} {h1 : AH} (q1 : h1 = mput h u (gM M x d)) : ∀ (n j : Nat), j + n = k → 1 ≤ j → RunM l D cA N0 m_X10_goes 3 0 0 (fun a h' => a = some (.int (bI ((z_go M.2.1 sn i p k x d).1 = true))) ∧ h' = mput h u (gM M (z_go M.2.1 sn i p k x d).2.1 (z_go M.2.1 sn i p k x d).2.2)) h1 0 0 30 [some (.ref u), some (.int (nI i)), some (.int (nI p)), some (.int (nI k)), some (.int (gx M.2.1 i 1)), some (.int (nI (10 ^ (j - 1)))), some (.int (nI j)), none] [] := by
  intro n
  induction n with
  | zero =>
    intro j hj h1j
    have hM1 := mAt q1
    have mo1 := hM1.o
    have ms1 := hM1.s
    have mb1 := hM1.b
    have mt1 := hM1.t
    have mn1 := hM1.n
    have mc1 := hM1.c
    refine R_iload6 (pc := 30) dX10_goes_30 ?_
    refine R_iload_n3 (pc := 32) dX10_goes_32 ?_
    refine R_icmp_ge (pc := 33) 49 dX10_goes_33 (by decide) (fun c_33 => ?_) (fun c_33 => absurd (by rw [show j = k by omega]; exact Int32.le_refl _) c_33)
    refine R_iconst (pc := 49) (v := 0) dX10_goes_49 (by decide) ?_
    refine R_istore6 (pc := 50) dX10_goes_50 rfl (by decide) ?_
    refine Run.cast (L_X10_goes2 hM hn hsn hi hp hk k 0 _ _ h1 none (Nat.zero_add k) q1 (Or.inl rfl)) rfl rfl rfl rfl ?_ rfl
    rw [show 10 ^ k / 10 = 10 ^ (j - 1) from by rw [show k = j - 1 + 1 by omega, Nat.pow_succ, Nat.mul_div_cancel _ (by decide)]]
    rfl
  | succ n ih =>
    intro j hj h1j
    have hM1 := mAt q1
    have mo1 := hM1.o
    have ms1 := hM1.s
    have mb1 := hM1.b
    have mt1 := hM1.t
    have mn1 := hM1.n
    have mc1 := hM1.c
    refine R_iload6 (pc := 30) dX10_goes_30 ?_
    refine R_iload_n3 (pc := 32) dX10_goes_32 ?_
    refine R_icmp_ge (pc := 33) 49 dX10_goes_33 (by decide) (fun c_33 => absurd c_33 (nI_ge (show j < k by omega) (by omega))) (fun c_33 => ?_)
    refine R_iload5 (pc := 36) dX10_goes_36 ?_
    refine R_bipush (pc := 38) (v := 10) dX10_goes_38 (by decide) ?_
    refine R_imul (pc := 40) dX10_goes_40 ?_
    refine R_istore5 (pc := 41) dX10_goes_41 rfl (by decide) ?_
    refine R_iinc6 (pc := 43) dX10_goes_43 rfl (by decide) ?_
    refine R_goto (pc := 46) 30 dX10_goes_46 (by decide) ?_
    rw [nI_s, show nI (10 ^ (j - 1)) * 10 = nI (10 ^ (j - 1) * 10) from pk_mul _ 10, ← Nat.pow_succ, show (j - 1).succ = j + 1 - 1 by omega]
    exact ih (j + 1) (by omega) (by omega)

set_option maxHeartbeats 4000000 in
set_option maxRecDepth 100000 in
theorem c_X10_goes (hM : MAt h u M) {sn : Nat} (hn : sn ≤ 8) (hsn : M.2.1 10 = nI sn) {i p k : Nat} (hi : i < 8) (hp : p < 2 ^ 31) (hk : k ≤ 9) (hk1 : 1 ≤ k) : Spec l D cA N0 m_X10_goes 3 0 0 [.ref u, .int (nI i), .int (nI p), .int (nI k)] h (fun r h' => r = some (.int (bI ((z_go M.2.1 sn i p k (gx M.2.1 i 1) (gx M.2.1 i 2)).1 = true))) ∧ h' = mput h u (gM M (z_go M.2.1 sn i p k (gx M.2.1 i 1) (gx M.2.1 i 2)).2.1 (z_go M.2.1 sn i p k (gx M.2.1 i 1) (gx M.2.1 i 2)).2.2)) := by
  refine Spec.of (L := [some (.ref u), some (.int (nI i)), some (.int (nI p)), some (.int (nI k)), none, none, none, none]) (by decide) rfl (Nat.le_of_ble_eq_true rfl) ?_
  have q0 : h = mput h u M := (mput_self hM).symm
  have mo0 := hM.o
  have ms0 := hM.s
  have mb0 := hM.b
  have mt0 := hM.t
  have mn0 := hM.n
  have mc0 := hM.c
  refine R_aload_n0 (pc := 0) dX10_goes_0 ?_
  refine R_iload_n1 (pc := 1) dX10_goes_1 ?_
  refine R_iconst (pc := 2) (v := 1) dX10_goes_2 (by decide) ?_
  refine R_callV2 (pc := 3) (T := TX10) cal_X10_get kw899 kw901 kw25 dX10_goes_3 (c_X10_get hM (by assumption) (k := 1) (by decide)) (by decide) (Nat.le_of_ble_eq_true rfl) (ci := 8) rfl (by assumption) ?_
  rintro _ _ ⟨rfl, rfl⟩
  refine R_istore4 (pc := 6) dX10_goes_6 rfl (by decide) ?_
  refine R_aload_n0 (pc := 8) dX10_goes_8 ?_
  refine R_iload4 (pc := 9) dX10_goes_9 ?_
  refine P_X10_104 (pc := 11) dX10_goes_11 (by assumption) (fun h1 e1 f1 => ?_)
  have q1 := mstep_o q0 e1
  have hM1 := mAt q1
  have mo1 := hM1.o
  have ms1 := hM1.s
  have mb1 := hM1.b
  have mt1 := hM1.t
  have mn1 := hM1.n
  have mc1 := hM1.c
  refine R_aload_n0 (pc := 14) dX10_goes_14 ?_
  refine R_aload_n0 (pc := 15) dX10_goes_15 ?_
  refine R_iload_n1 (pc := 16) dX10_goes_16 ?_
  refine R_iconst (pc := 17) (v := 2) dX10_goes_17 (by decide) ?_
  refine R_callV2 (pc := 18) (T := TX10) cal_X10_get kw899 kw901 kw25 dX10_goes_18 (c_X10_get hM1 (by assumption) (k := 2) (by decide)) (by decide) (Nat.le_of_ble_eq_true rfl) (ci := 8) rfl (by assumption) ?_
  rintro _ _ ⟨rfl, rfl⟩
  refine P_X10_107 (pc := 21) dX10_goes_21 (by assumption) (fun h2 e2 f2 => ?_)
  have q2 := mstep_o q1 e2
  have hM2 := mAt q2
  have mo2 := hM2.o
  have ms2 := hM2.s
  have mb2 := hM2.b
  have mt2 := hM2.t
  have mn2 := hM2.n
  have mc2 := hM2.c
  refine R_iconst (pc := 24) (v := 1) dX10_goes_24 (by decide) ?_
  refine R_istore5 (pc := 25) dX10_goes_25 rfl (by decide) ?_
  refine R_iconst (pc := 27) (v := 1) dX10_goes_27 (by decide) ?_
  refine R_istore6 (pc := 28) dX10_goes_28 rfl (by decide) ?_
  exact L_X10_goes1 hM hn hsn hi hp hk q2 (k - 1) 1 (by omega) (by decide)

set_option maxHeartbeats 4000000 in
set_option maxRecDepth 100000 in
theorem L_X10_onLine (hM : MAt h u M) {sn : Nat} (hn : sn ≤ 8) (hsn : M.2.1 10 = nI sn) {i : Nat} {d : Int32} : ∀ (k f : Nat) (x : Int32) (h1 : AH) (q : Option Value), f + k = 4 → h1 = mput h u (fM M 9 (nI f)) → q = none ∨ (∃ z, q = some (.int z)) → RunM l D cA N0 m_X10_onLine 2 0 0 (fun a h' => a = some (.int (z_line M.2.1 sn d k f x).1) ∧ h' = mput h u (fM M 9 (nI (z_line M.2.1 sn d k f x).2))) h1 0 0 12 [some (.ref u), some (.int (nI i)), some (.int d), some (.int x), q] [] := by
  intro k
  induction k with
  | zero =>
    intro f x h1 q hj q1 hq
    have hM1 := mAt q1
    have mo1 := hM1.o
    have ms1 := hM1.s
    have mb1 := hM1.b
    have mt1 := hM1.t
    have mn1 := hM1.n
    have mc1 := hM1.c
    rcases hq with rfl | ⟨z, rfl⟩
    · skip
      refine R_aload_n0 (pc := 12) dX10_onLine_12 ?_
      refine G_X10_123 (pc := 13) dX10_onLine_13 (by assumption) ?_
      rw [show (fM M 9 (nI f)).1 9 = nI f from rfl]
      refine R_iconst (pc := 16) (v := 4) dX10_onLine_16 (by decide) ?_
      refine R_icmp_ge (pc := 17) 73 dX10_onLine_17 (by decide) (fun c_17 => ?_) (fun c_17 => absurd (by rw [show f = 4 by omega]; decide) c_17)
      refine R_iconst (pc := 73) (v := (-1)) dX10_onLine_73 (by decide) ?_
      refine R_iret (pc := 74) rfl rfl dX10_onLine_74 ?_
      exact ⟨rfl, q1⟩
    · skip
      refine R_aload_n0 (pc := 12) dX10_onLine_12 ?_
      refine G_X10_123 (pc := 13) dX10_onLine_13 (by assumption) ?_
      rw [show (fM M 9 (nI f)).1 9 = nI f from rfl]
      refine R_iconst (pc := 16) (v := 4) dX10_onLine_16 (by decide) ?_
      refine R_icmp_ge (pc := 17) 73 dX10_onLine_17 (by decide) (fun c_17 => ?_) (fun c_17 => absurd (by rw [show f = 4 by omega]; decide) c_17)
      refine R_iconst (pc := 73) (v := (-1)) dX10_onLine_73 (by decide) ?_
      refine R_iret (pc := 74) rfl rfl dX10_onLine_74 ?_
      exact ⟨rfl, q1⟩
  | succ k ih =>
    intro f x h1 q hj q1 hq
    have hM1 := mAt q1
    have mo1 := hM1.o
    have ms1 := hM1.s
    have mb1 := hM1.b
    have mt1 := hM1.t
    have mn1 := hM1.n
    have mc1 := hM1.c
    rcases hq with rfl | ⟨z, rfl⟩
    · skip
      refine R_aload_n0 (pc := 12) dX10_onLine_12 ?_
      refine G_X10_123 (pc := 13) dX10_onLine_13 (by assumption) ?_
      rw [show (fM M 9 (nI f)).1 9 = nI f from rfl]
      refine R_iconst (pc := 16) (v := 4) dX10_onLine_16 (by decide) ?_
      refine R_icmp_ge (pc := 17) 73 dX10_onLine_17 (by decide) (fun c_17 => absurd c_17 (nI_ge (show f < 4 by omega) (by decide))) (fun c_17 => ?_)
      refine R_iload_n3 (pc := 20) dX10_onLine_20 ?_
      refine R_iload_n2 (pc := 21) dX10_onLine_21 ?_
      refine R_callS2 (pc := 22) cal_X10_next kw978 kw979 dX10_onLine_22 c_X10_next (by decide) (Nat.le_of_ble_eq_true rfl) ?_
      rintro _ _ ⟨rfl, rfl⟩
      refine R_istore_n3 (pc := 25) dX10_onLine_25 rfl (by decide) ?_
      refine R_iload_n3 (pc := 26) dX10_onLine_26 ?_
      refine R_if_lt (pc := 27) 43 dX10_onLine_27 (by decide) (fun c_27 => ?_) (fun c_27 => ?_)
      · skip
        have d_27 := Int32.not_le.mpr c_27
        refine R_iconst (pc := 43) (v := (-1)) dX10_onLine_43 (by decide) ?_
        refine R_iret (pc := 44) rfl rfl dX10_onLine_44 ?_
        rw [z_line_s, if_pos (Or.inl c_27)]
        exact ⟨rfl, q1⟩
      · skip
        have d_27 := Int32.not_lt.mp c_27
        refine R_aload_n0 (pc := 30) dX10_onLine_30 ?_
        refine G_X10_7 (pc := 31) dX10_onLine_31 (by assumption) ?_
        refine R_bipush (pc := 34) (v := 12) dX10_onLine_34 (by decide) ?_
        refine R_iload_n3 (pc := 36) dX10_onLine_36 ?_
        refine R_iadd (pc := 37) dX10_onLine_37 ?_
        obtain ⟨y, hy, ey⟩ := z_next_in c_27
        have eyc : (z_next x d).toNatClampNeg = y := by rw [ey, nI_clamp (by omega)]
        rw [show 12 + z_next x d = nI (12 + y) from by rw [ey, h12]]
        refine R_iald (pc := 38) dX10_onLine_38 (by assumption) (in_n (show 12 + y < 545 by omega) (by decide)) ?_
        rw [nI_clamp (show 12 + y < 2 ^ 31 by omega), ← eyc]
        refine R_iconst (pc := 39) (v := 1) dX10_onLine_39 (by decide) ?_
        refine R_icmp_ne (pc := 40) 45 dX10_onLine_40 (by decide) (fun c_40 => ?_) (fun c_40 => ?_)
        · skip
          have hno : ¬ (z_next x d < 0 ∨ M.2.1 (12 + (z_next x d).toNatClampNeg) = 1) := fun z => z.elim c_27 c_40
          refine R_aload_n0 (pc := 45) dX10_onLine_45 ?_
          refine R_iload_n3 (pc := 46) dX10_onLine_46 ?_
          refine R_callV1 (pc := 47) (T := TX10) cal_X10_shipOn kw895 kw897 kw24 dX10_onLine_47 (c_X10_shipOn hM1 hn hsn) (by decide) (Nat.le_of_ble_eq_true rfl) (ci := 8) rfl (by assumption) ?_
          rintro _ _ ⟨rfl, rfl⟩
          refine R_istore4 (pc := 50) dX10_onLine_50 rfl (by decide) ?_
          refine R_iload4 (pc := 52) dX10_onLine_52 ?_
          refine R_if_lt (pc := 54) 60 dX10_onLine_54 (by decide) (fun c_54 => ?_) (fun c_54 => ?_)
          · skip
            have d_54 := Int32.not_le.mpr c_54
            have hz : z_on M.2.1 sn (z_next x d) = none := by
              rcases z_on_cases M.2.1 sn (z_next x d) with z | ⟨j, hj, _, z⟩
              · exact z
              · have c_54 : z_onv (z_on M.2.1 sn (z_next x d)) < 0 := c_54
                rw [z] at c_54
                exact absurd c_54 (Int32.not_lt.mpr (nI_pos' (show j < 2 ^ 31 by omega)))
            refine R_aload_n0 (pc := 60) dX10_onLine_60 ?_
            refine R_dup (pc := 61) dX10_onLine_61 rfl ?_
            refine G_X10_123 (pc := 62) dX10_onLine_62 (by assumption) ?_
            refine R_iconst (pc := 65) (v := 1) dX10_onLine_65 (by decide) ?_
            refine R_iadd (pc := 66) dX10_onLine_66 ?_
            refine P_X10_123 (pc := 67) dX10_onLine_67 (by assumption) (fun h1 e1 f1 => ?_)
            have q1 := mstep_o q1 e1
            have hM1 := mAt q1
            have mo1 := hM1.o
            have ms1 := hM1.s
            have mb1 := hM1.b
            have mt1 := hM1.t
            have mn1 := hM1.n
            have mc1 := hM1.c
            have q67 := q1
            rw [fM_fM] at q67
            refine R_goto (pc := 70) 12 dX10_onLine_70 (by decide) ?_
            rw [z_line_s, if_neg hno, hz]
            exact ih (f + 1) _ _ _ (by omega) (by rw [q67, show (fM M 9 (nI f)).1 9 = nI f from rfl, nI_1]) (Or.inr ⟨_, rfl⟩)
          · skip
            have d_54 := Int32.not_lt.mp c_54
            have hz : ∃ j, z_on M.2.1 sn (z_next x d) = some j := by
              rcases z_on_cases M.2.1 sn (z_next x d) with z | ⟨j, _, _, z⟩
              · exact absurd (show z_onv (z_on M.2.1 sn (z_next x d)) < 0 by rw [z]; decide) c_54
              · exact ⟨j, z⟩
            obtain ⟨j, hz⟩ := hz
            refine R_iload4 (pc := 57) dX10_onLine_57 ?_
            refine R_iret (pc := 59) rfl rfl dX10_onLine_59 ?_
            rw [z_line_s, if_neg hno, hz]
            exact ⟨congrArg (fun z => some (Value.int (z_onv z))) hz, q1⟩
        · skip
          refine R_iconst (pc := 43) (v := (-1)) dX10_onLine_43 (by decide) ?_
          refine R_iret (pc := 44) rfl rfl dX10_onLine_44 ?_
          rw [z_line_s, if_pos (show z_next x d < 0 ∨ M.2.1 (12 + (z_next x d).toNatClampNeg) = 1 from Or.inr c_40)]
          exact ⟨rfl, q1⟩
    · skip
      refine R_aload_n0 (pc := 12) dX10_onLine_12 ?_
      refine G_X10_123 (pc := 13) dX10_onLine_13 (by assumption) ?_
      rw [show (fM M 9 (nI f)).1 9 = nI f from rfl]
      refine R_iconst (pc := 16) (v := 4) dX10_onLine_16 (by decide) ?_
      refine R_icmp_ge (pc := 17) 73 dX10_onLine_17 (by decide) (fun c_17 => absurd c_17 (nI_ge (show f < 4 by omega) (by decide))) (fun c_17 => ?_)
      refine R_iload_n3 (pc := 20) dX10_onLine_20 ?_
      refine R_iload_n2 (pc := 21) dX10_onLine_21 ?_
      refine R_callS2 (pc := 22) cal_X10_next kw978 kw979 dX10_onLine_22 c_X10_next (by decide) (Nat.le_of_ble_eq_true rfl) ?_
      rintro _ _ ⟨rfl, rfl⟩
      refine R_istore_n3 (pc := 25) dX10_onLine_25 rfl (by decide) ?_
      refine R_iload_n3 (pc := 26) dX10_onLine_26 ?_
      refine R_if_lt (pc := 27) 43 dX10_onLine_27 (by decide) (fun c_27 => ?_) (fun c_27 => ?_)
      · skip
        have d_27 := Int32.not_le.mpr c_27
        refine R_iconst (pc := 43) (v := (-1)) dX10_onLine_43 (by decide) ?_
        refine R_iret (pc := 44) rfl rfl dX10_onLine_44 ?_
        rw [z_line_s, if_pos (Or.inl c_27)]
        exact ⟨rfl, q1⟩
      · skip
        have d_27 := Int32.not_lt.mp c_27
        refine R_aload_n0 (pc := 30) dX10_onLine_30 ?_
        refine G_X10_7 (pc := 31) dX10_onLine_31 (by assumption) ?_
        refine R_bipush (pc := 34) (v := 12) dX10_onLine_34 (by decide) ?_
        refine R_iload_n3 (pc := 36) dX10_onLine_36 ?_
        refine R_iadd (pc := 37) dX10_onLine_37 ?_
        obtain ⟨y, hy, ey⟩ := z_next_in c_27
        have eyc : (z_next x d).toNatClampNeg = y := by rw [ey, nI_clamp (by omega)]
        rw [show 12 + z_next x d = nI (12 + y) from by rw [ey, h12]]
        refine R_iald (pc := 38) dX10_onLine_38 (by assumption) (in_n (show 12 + y < 545 by omega) (by decide)) ?_
        rw [nI_clamp (show 12 + y < 2 ^ 31 by omega), ← eyc]
        refine R_iconst (pc := 39) (v := 1) dX10_onLine_39 (by decide) ?_
        refine R_icmp_ne (pc := 40) 45 dX10_onLine_40 (by decide) (fun c_40 => ?_) (fun c_40 => ?_)
        · skip
          have hno : ¬ (z_next x d < 0 ∨ M.2.1 (12 + (z_next x d).toNatClampNeg) = 1) := fun z => z.elim c_27 c_40
          refine R_aload_n0 (pc := 45) dX10_onLine_45 ?_
          refine R_iload_n3 (pc := 46) dX10_onLine_46 ?_
          refine R_callV1 (pc := 47) (T := TX10) cal_X10_shipOn kw895 kw897 kw24 dX10_onLine_47 (c_X10_shipOn hM1 hn hsn) (by decide) (Nat.le_of_ble_eq_true rfl) (ci := 8) rfl (by assumption) ?_
          rintro _ _ ⟨rfl, rfl⟩
          refine R_istore4 (pc := 50) dX10_onLine_50 rfl (by decide) ?_
          refine R_iload4 (pc := 52) dX10_onLine_52 ?_
          refine R_if_lt (pc := 54) 60 dX10_onLine_54 (by decide) (fun c_54 => ?_) (fun c_54 => ?_)
          · skip
            have d_54 := Int32.not_le.mpr c_54
            have hz : z_on M.2.1 sn (z_next x d) = none := by
              rcases z_on_cases M.2.1 sn (z_next x d) with z | ⟨j, hj, _, z⟩
              · exact z
              · have c_54 : z_onv (z_on M.2.1 sn (z_next x d)) < 0 := c_54
                rw [z] at c_54
                exact absurd c_54 (Int32.not_lt.mpr (nI_pos' (show j < 2 ^ 31 by omega)))
            refine R_aload_n0 (pc := 60) dX10_onLine_60 ?_
            refine R_dup (pc := 61) dX10_onLine_61 rfl ?_
            refine G_X10_123 (pc := 62) dX10_onLine_62 (by assumption) ?_
            refine R_iconst (pc := 65) (v := 1) dX10_onLine_65 (by decide) ?_
            refine R_iadd (pc := 66) dX10_onLine_66 ?_
            refine P_X10_123 (pc := 67) dX10_onLine_67 (by assumption) (fun h1 e1 f1 => ?_)
            have q1 := mstep_o q1 e1
            have hM1 := mAt q1
            have mo1 := hM1.o
            have ms1 := hM1.s
            have mb1 := hM1.b
            have mt1 := hM1.t
            have mn1 := hM1.n
            have mc1 := hM1.c
            have q67 := q1
            rw [fM_fM] at q67
            refine R_goto (pc := 70) 12 dX10_onLine_70 (by decide) ?_
            rw [z_line_s, if_neg hno, hz]
            exact ih (f + 1) _ _ _ (by omega) (by rw [q67, show (fM M 9 (nI f)).1 9 = nI f from rfl, nI_1]) (Or.inr ⟨_, rfl⟩)
          · skip
            have d_54 := Int32.not_lt.mp c_54
            have hz : ∃ j, z_on M.2.1 sn (z_next x d) = some j := by
              rcases z_on_cases M.2.1 sn (z_next x d) with z | ⟨j, _, _, z⟩
              · exact absurd (show z_onv (z_on M.2.1 sn (z_next x d)) < 0 by rw [z]; decide) c_54
              · exact ⟨j, z⟩
            obtain ⟨j, hz⟩ := hz
            refine R_iload4 (pc := 57) dX10_onLine_57 ?_
            refine R_iret (pc := 59) rfl rfl dX10_onLine_59 ?_
            rw [z_line_s, if_neg hno, hz]
            exact ⟨congrArg (fun z => some (Value.int (z_onv z))) hz, q1⟩
        · skip
          refine R_iconst (pc := 43) (v := (-1)) dX10_onLine_43 (by decide) ?_
          refine R_iret (pc := 44) rfl rfl dX10_onLine_44 ?_
          rw [z_line_s, if_pos (show z_next x d < 0 ∨ M.2.1 (12 + (z_next x d).toNatClampNeg) = 1 from Or.inr c_40)]
          exact ⟨rfl, q1⟩

set_option maxHeartbeats 4000000 in
set_option maxRecDepth 100000 in
theorem c_X10_onLine (hM : MAt h u M) {sn : Nat} (hn : sn ≤ 8) (hsn : M.2.1 10 = nI sn) {i : Nat} (hi : i < 8) {d : Int32} : Spec l D cA N0 m_X10_onLine 2 0 0 [.ref u, .int (nI i), .int d] h (fun r h' => r = some (.int (z_ln M.2.1 sn i d).1) ∧ h' = mput h u (fM M 9 (nI (z_ln M.2.1 sn i d).2))) := by
  refine Spec.of (L := [some (.ref u), some (.int (nI i)), some (.int d), none, none]) (by decide) rfl (Nat.le_of_ble_eq_true rfl) ?_
  have q0 : h = mput h u M := (mput_self hM).symm
  have mo0 := hM.o
  have ms0 := hM.s
  have mb0 := hM.b
  have mt0 := hM.t
  have mn0 := hM.n
  have mc0 := hM.c
  refine R_aload_n0 (pc := 0) dX10_onLine_0 ?_
  refine R_iload_n1 (pc := 1) dX10_onLine_1 ?_
  refine R_iconst (pc := 2) (v := 1) dX10_onLine_2 (by decide) ?_
  refine R_callV2 (pc := 3) (T := TX10) cal_X10_get kw899 kw901 kw25 dX10_onLine_3 (c_X10_get hM (by assumption) (k := 1) (by decide)) (by decide) (Nat.le_of_ble_eq_true rfl) (ci := 8) rfl (by assumption) ?_
  rintro _ _ ⟨rfl, rfl⟩
  refine R_istore_n3 (pc := 6) dX10_onLine_6 rfl (by decide) ?_
  refine R_aload_n0 (pc := 7) dX10_onLine_7 ?_
  refine R_iconst (pc := 8) (v := 1) dX10_onLine_8 (by decide) ?_
  refine P_X10_123 (pc := 9) dX10_onLine_9 (by assumption) (fun h1 e1 f1 => ?_)
  have q1 := mstep_o q0 e1
  have hM1 := mAt q1
  have mo1 := hM1.o
  have ms1 := hM1.s
  have mb1 := hM1.b
  have mt1 := hM1.t
  have mn1 := hM1.n
  have mc1 := hM1.c
  exact L_X10_onLine hM hn hsn 3 1 _ _ none rfl q1 (Or.inl rfl)

set_option maxHeartbeats 4000000 in
set_option maxRecDepth 100000 in
theorem L_X10_farBy (hM : MAt h u M) {sn : Nat} (hn : sn ≤ 8) (hsn : M.2.1 10 = nI sn) {i t : Nat} (hi : i < 8) {side : Int32} : ∀ (n k : Nat) (v : Int32) (h1 : AH) (q : Option Value), k + n = 2 → h1 = mput h u (fM M 9 v) → q = none ∨ (∃ z, q = some (.int z)) → RunM l D cA N0 m_X10_farBy 3 0 0 (fun a h' => a = some (.int (z_fr M.2.1 sn i side t n k)) ∧ ∃ v, h' = mput h u (fM M 9 v)) h1 0 0 28 [some (.ref u), some (.int (nI i)), some (.int side), some (.int (nI t)), some (.int (nI k)), q] [] := by
  intro n
  induction n with
  | zero =>
    intro k v h1 q hj q1 hq
    have hM1 := mAt q1
    have mo1 := hM1.o
    have ms1 := hM1.s
    have mb1 := hM1.b
    have mt1 := hM1.t
    have mn1 := hM1.n
    have mc1 := hM1.c
    rcases hq with rfl | ⟨z, rfl⟩
    · skip
      refine R_iload4 (pc := 28) dX10_farBy_28 ?_
      refine R_iconst (pc := 30) (v := 2) dX10_farBy_30 (by decide) ?_
      refine R_icmp_ge (pc := 31) 80 dX10_farBy_31 (by decide) (fun c_31 => ?_) (fun c_31 => absurd (by rw [show k = 2 by omega]; decide) c_31)
      refine R_iconst (pc := 80) (v := 0) dX10_farBy_80 (by decide) ?_
      refine R_iret (pc := 81) rfl rfl dX10_farBy_81 ?_
      exact ⟨rfl, _, q1⟩
    · skip
      refine R_iload4 (pc := 28) dX10_farBy_28 ?_
      refine R_iconst (pc := 30) (v := 2) dX10_farBy_30 (by decide) ?_
      refine R_icmp_ge (pc := 31) 80 dX10_farBy_31 (by decide) (fun c_31 => ?_) (fun c_31 => absurd (by rw [show k = 2 by omega]; decide) c_31)
      refine R_iconst (pc := 80) (v := 0) dX10_farBy_80 (by decide) ?_
      refine R_iret (pc := 81) rfl rfl dX10_farBy_81 ?_
      exact ⟨rfl, _, q1⟩
  | succ n ih =>
    intro k v h1 q hj q1 hq
    have hM1 := mAt q1
    have mo1 := hM1.o
    have ms1 := hM1.s
    have mb1 := hM1.b
    have mt1 := hM1.t
    have mn1 := hM1.n
    have mc1 := hM1.c
    rcases hq with rfl | ⟨z, rfl⟩
    · skip
      refine R_iload4 (pc := 28) dX10_farBy_28 ?_
      refine R_iconst (pc := 30) (v := 2) dX10_farBy_30 (by decide) ?_
      refine R_icmp_ge (pc := 31) 80 dX10_farBy_31 (by decide) (fun c_31 => absurd c_31 (nI_ge (show k < 2 by omega) (by decide))) (fun c_31 => ?_)
      refine R_aload_n0 (pc := 34) dX10_farBy_34 ?_
      refine R_iload_n1 (pc := 35) dX10_farBy_35 ?_
      refine R_iconst (pc := 36) (v := 2) dX10_farBy_36 (by decide) ?_
      refine R_callV2 (pc := 37) (T := TX10) cal_X10_get kw899 kw901 kw25 dX10_farBy_37 (c_X10_get hM1 (by assumption) (k := 2) (by decide)) (by decide) (Nat.le_of_ble_eq_true rfl) (ci := 8) rfl (by assumption) ?_
      rintro _ _ ⟨rfl, rfl⟩
      refine R_iload_n2 (pc := 40) dX10_farBy_40 ?_
      refine R_if_ne (pc := 41) 48 dX10_farBy_41 (by decide) (fun c_41 => ?_) (fun c_41 => ?_)
      · skip
        refine R_iconst (pc := 48) (v := 1) dX10_farBy_48 (by decide) ?_
        refine R_iadd (pc := 49) dX10_farBy_49 ?_
        refine R_iload4 (pc := 50) dX10_farBy_50 ?_
        refine R_iadd (pc := 52) dX10_farBy_52 ?_
        refine R_bipush (pc := 53) (v := 6) dX10_farBy_53 (by decide) ?_
        refine R_irem (pc := 55) dX10_farBy_55 (by decide) ?_
        refine R_istore5 (pc := 56) dX10_farBy_56 rfl (by decide) ?_
        refine R_aload_n0 (pc := 58) dX10_farBy_58 ?_
        refine R_iload_n1 (pc := 59) dX10_farBy_59 ?_
        refine R_iload5 (pc := 60) dX10_farBy_60 ?_
        refine R_callV2 (pc := 62) (T := TX10) cal_X10_onLine kw993 kw995 kw39 dX10_farBy_62 (c_X10_onLine hM1 hn hsn hi) (by decide) (Nat.le_of_ble_eq_true rfl) (ci := 8) rfl (by assumption) ?_
        rintro _ h62 ⟨rfl, e62⟩
        have q62 := mstep_M q1 e62
        rw [fM_fM] at q62
        have hM62 := mAt q62
        have mo62 := hM62.o
        have ms62 := hM62.s
        have mb62 := hM62.b
        have mt62 := hM62.t
        have mn62 := hM62.n
        have mc62 := hM62.c
        refine R_iload_n3 (pc := 65) dX10_farBy_65 ?_
        refine R_icmp_ne (pc := 66) 74 dX10_farBy_66 (by decide) (fun c_66 => ?_) (fun c_66 => ?_)
        · skip
          refine R_iinc4 (pc := 74) dX10_farBy_74 rfl (by decide) ?_
          refine R_goto (pc := 77) 28 dX10_farBy_77 (by decide) ?_
          have hw : z_wy M.2.1 i side k = gx M.2.1 i 2 + 1 + nI k - (gx M.2.1 i 2 + 1 + nI k) / 6 * 6 := by rw [z_wy, if_neg c_41]
          have c_66 : ¬ (z_ln M.2.1 sn i (z_wy M.2.1 i side k)).1 = nI t := by rw [hw]; exact c_66
          rw [nI_s]
          rw [z_fr_s, if_neg c_66]
          exact ih (k + 1) _ _ _ (by omega) q62 (Or.inr ⟨_, rfl⟩)
        · skip
          refine R_aload_n0 (pc := 69) dX10_farBy_69 ?_
          refine G_X10_123 (pc := 70) dX10_farBy_70 (by assumption) ?_
          refine R_iret (pc := 73) rfl rfl dX10_farBy_73 ?_
          have hw : z_wy M.2.1 i side k = gx M.2.1 i 2 + 1 + nI k - (gx M.2.1 i 2 + 1 + nI k) / 6 * 6 := by rw [z_wy, if_neg c_41]
          have c_66 : (z_ln M.2.1 sn i (z_wy M.2.1 i side k)).1 = nI t := by rw [hw]; exact c_66
          refine ⟨?_, _, q62⟩
          rw [z_fr_s, if_pos c_66, hw]
          rfl
      · skip
        refine R_iconst (pc := 44) (v := 4) dX10_farBy_44 (by decide) ?_
        refine R_goto (pc := 45) 49 dX10_farBy_45 (by decide) ?_
        refine R_iadd (pc := 49) dX10_farBy_49 ?_
        refine R_iload4 (pc := 50) dX10_farBy_50 ?_
        refine R_iadd (pc := 52) dX10_farBy_52 ?_
        refine R_bipush (pc := 53) (v := 6) dX10_farBy_53 (by decide) ?_
        refine R_irem (pc := 55) dX10_farBy_55 (by decide) ?_
        refine R_istore5 (pc := 56) dX10_farBy_56 rfl (by decide) ?_
        refine R_aload_n0 (pc := 58) dX10_farBy_58 ?_
        refine R_iload_n1 (pc := 59) dX10_farBy_59 ?_
        refine R_iload5 (pc := 60) dX10_farBy_60 ?_
        refine R_callV2 (pc := 62) (T := TX10) cal_X10_onLine kw993 kw995 kw39 dX10_farBy_62 (c_X10_onLine hM1 hn hsn hi) (by decide) (Nat.le_of_ble_eq_true rfl) (ci := 8) rfl (by assumption) ?_
        rintro _ h62 ⟨rfl, e62⟩
        have q62 := mstep_M q1 e62
        rw [fM_fM] at q62
        have hM62 := mAt q62
        have mo62 := hM62.o
        have ms62 := hM62.s
        have mb62 := hM62.b
        have mt62 := hM62.t
        have mn62 := hM62.n
        have mc62 := hM62.c
        refine R_iload_n3 (pc := 65) dX10_farBy_65 ?_
        refine R_icmp_ne (pc := 66) 74 dX10_farBy_66 (by decide) (fun c_66 => ?_) (fun c_66 => ?_)
        · skip
          refine R_iinc4 (pc := 74) dX10_farBy_74 rfl (by decide) ?_
          refine R_goto (pc := 77) 28 dX10_farBy_77 (by decide) ?_
          have hw : z_wy M.2.1 i side k = gx M.2.1 i 2 + 4 + nI k - (gx M.2.1 i 2 + 4 + nI k) / 6 * 6 := by rw [z_wy, if_pos c_41]
          have c_66 : ¬ (z_ln M.2.1 sn i (z_wy M.2.1 i side k)).1 = nI t := by rw [hw]; exact c_66
          rw [nI_s]
          rw [z_fr_s, if_neg c_66]
          exact ih (k + 1) _ _ _ (by omega) q62 (Or.inr ⟨_, rfl⟩)
        · skip
          refine R_aload_n0 (pc := 69) dX10_farBy_69 ?_
          refine G_X10_123 (pc := 70) dX10_farBy_70 (by assumption) ?_
          refine R_iret (pc := 73) rfl rfl dX10_farBy_73 ?_
          have hw : z_wy M.2.1 i side k = gx M.2.1 i 2 + 4 + nI k - (gx M.2.1 i 2 + 4 + nI k) / 6 * 6 := by rw [z_wy, if_pos c_41]
          have c_66 : (z_ln M.2.1 sn i (z_wy M.2.1 i side k)).1 = nI t := by rw [hw]; exact c_66
          refine ⟨?_, _, q62⟩
          rw [z_fr_s, if_pos c_66, hw]
          rfl
    · skip
      refine R_iload4 (pc := 28) dX10_farBy_28 ?_
      refine R_iconst (pc := 30) (v := 2) dX10_farBy_30 (by decide) ?_
      refine R_icmp_ge (pc := 31) 80 dX10_farBy_31 (by decide) (fun c_31 => absurd c_31 (nI_ge (show k < 2 by omega) (by decide))) (fun c_31 => ?_)
      refine R_aload_n0 (pc := 34) dX10_farBy_34 ?_
      refine R_iload_n1 (pc := 35) dX10_farBy_35 ?_
      refine R_iconst (pc := 36) (v := 2) dX10_farBy_36 (by decide) ?_
      refine R_callV2 (pc := 37) (T := TX10) cal_X10_get kw899 kw901 kw25 dX10_farBy_37 (c_X10_get hM1 (by assumption) (k := 2) (by decide)) (by decide) (Nat.le_of_ble_eq_true rfl) (ci := 8) rfl (by assumption) ?_
      rintro _ _ ⟨rfl, rfl⟩
      refine R_iload_n2 (pc := 40) dX10_farBy_40 ?_
      refine R_if_ne (pc := 41) 48 dX10_farBy_41 (by decide) (fun c_41 => ?_) (fun c_41 => ?_)
      · skip
        refine R_iconst (pc := 48) (v := 1) dX10_farBy_48 (by decide) ?_
        refine R_iadd (pc := 49) dX10_farBy_49 ?_
        refine R_iload4 (pc := 50) dX10_farBy_50 ?_
        refine R_iadd (pc := 52) dX10_farBy_52 ?_
        refine R_bipush (pc := 53) (v := 6) dX10_farBy_53 (by decide) ?_
        refine R_irem (pc := 55) dX10_farBy_55 (by decide) ?_
        refine R_istore5 (pc := 56) dX10_farBy_56 rfl (by decide) ?_
        refine R_aload_n0 (pc := 58) dX10_farBy_58 ?_
        refine R_iload_n1 (pc := 59) dX10_farBy_59 ?_
        refine R_iload5 (pc := 60) dX10_farBy_60 ?_
        refine R_callV2 (pc := 62) (T := TX10) cal_X10_onLine kw993 kw995 kw39 dX10_farBy_62 (c_X10_onLine hM1 hn hsn hi) (by decide) (Nat.le_of_ble_eq_true rfl) (ci := 8) rfl (by assumption) ?_
        rintro _ h62 ⟨rfl, e62⟩
        have q62 := mstep_M q1 e62
        rw [fM_fM] at q62
        have hM62 := mAt q62
        have mo62 := hM62.o
        have ms62 := hM62.s
        have mb62 := hM62.b
        have mt62 := hM62.t
        have mn62 := hM62.n
        have mc62 := hM62.c
        refine R_iload_n3 (pc := 65) dX10_farBy_65 ?_
        refine R_icmp_ne (pc := 66) 74 dX10_farBy_66 (by decide) (fun c_66 => ?_) (fun c_66 => ?_)
        · skip
          refine R_iinc4 (pc := 74) dX10_farBy_74 rfl (by decide) ?_
          refine R_goto (pc := 77) 28 dX10_farBy_77 (by decide) ?_
          have hw : z_wy M.2.1 i side k = gx M.2.1 i 2 + 1 + nI k - (gx M.2.1 i 2 + 1 + nI k) / 6 * 6 := by rw [z_wy, if_neg c_41]
          have c_66 : ¬ (z_ln M.2.1 sn i (z_wy M.2.1 i side k)).1 = nI t := by rw [hw]; exact c_66
          rw [nI_s]
          rw [z_fr_s, if_neg c_66]
          exact ih (k + 1) _ _ _ (by omega) q62 (Or.inr ⟨_, rfl⟩)
        · skip
          refine R_aload_n0 (pc := 69) dX10_farBy_69 ?_
          refine G_X10_123 (pc := 70) dX10_farBy_70 (by assumption) ?_
          refine R_iret (pc := 73) rfl rfl dX10_farBy_73 ?_
          have hw : z_wy M.2.1 i side k = gx M.2.1 i 2 + 1 + nI k - (gx M.2.1 i 2 + 1 + nI k) / 6 * 6 := by rw [z_wy, if_neg c_41]
          have c_66 : (z_ln M.2.1 sn i (z_wy M.2.1 i side k)).1 = nI t := by rw [hw]; exact c_66
          refine ⟨?_, _, q62⟩
          rw [z_fr_s, if_pos c_66, hw]
          rfl
      · skip
        refine R_iconst (pc := 44) (v := 4) dX10_farBy_44 (by decide) ?_
        refine R_goto (pc := 45) 49 dX10_farBy_45 (by decide) ?_
        refine R_iadd (pc := 49) dX10_farBy_49 ?_
        refine R_iload4 (pc := 50) dX10_farBy_50 ?_
        refine R_iadd (pc := 52) dX10_farBy_52 ?_
        refine R_bipush (pc := 53) (v := 6) dX10_farBy_53 (by decide) ?_
        refine R_irem (pc := 55) dX10_farBy_55 (by decide) ?_
        refine R_istore5 (pc := 56) dX10_farBy_56 rfl (by decide) ?_
        refine R_aload_n0 (pc := 58) dX10_farBy_58 ?_
        refine R_iload_n1 (pc := 59) dX10_farBy_59 ?_
        refine R_iload5 (pc := 60) dX10_farBy_60 ?_
        refine R_callV2 (pc := 62) (T := TX10) cal_X10_onLine kw993 kw995 kw39 dX10_farBy_62 (c_X10_onLine hM1 hn hsn hi) (by decide) (Nat.le_of_ble_eq_true rfl) (ci := 8) rfl (by assumption) ?_
        rintro _ h62 ⟨rfl, e62⟩
        have q62 := mstep_M q1 e62
        rw [fM_fM] at q62
        have hM62 := mAt q62
        have mo62 := hM62.o
        have ms62 := hM62.s
        have mb62 := hM62.b
        have mt62 := hM62.t
        have mn62 := hM62.n
        have mc62 := hM62.c
        refine R_iload_n3 (pc := 65) dX10_farBy_65 ?_
        refine R_icmp_ne (pc := 66) 74 dX10_farBy_66 (by decide) (fun c_66 => ?_) (fun c_66 => ?_)
        · skip
          refine R_iinc4 (pc := 74) dX10_farBy_74 rfl (by decide) ?_
          refine R_goto (pc := 77) 28 dX10_farBy_77 (by decide) ?_
          have hw : z_wy M.2.1 i side k = gx M.2.1 i 2 + 4 + nI k - (gx M.2.1 i 2 + 4 + nI k) / 6 * 6 := by rw [z_wy, if_pos c_41]
          have c_66 : ¬ (z_ln M.2.1 sn i (z_wy M.2.1 i side k)).1 = nI t := by rw [hw]; exact c_66
          rw [nI_s]
          rw [z_fr_s, if_neg c_66]
          exact ih (k + 1) _ _ _ (by omega) q62 (Or.inr ⟨_, rfl⟩)
        · skip
          refine R_aload_n0 (pc := 69) dX10_farBy_69 ?_
          refine G_X10_123 (pc := 70) dX10_farBy_70 (by assumption) ?_
          refine R_iret (pc := 73) rfl rfl dX10_farBy_73 ?_
          have hw : z_wy M.2.1 i side k = gx M.2.1 i 2 + 4 + nI k - (gx M.2.1 i 2 + 4 + nI k) / 6 * 6 := by rw [z_wy, if_pos c_41]
          have c_66 : (z_ln M.2.1 sn i (z_wy M.2.1 i side k)).1 = nI t := by rw [hw]; exact c_66
          refine ⟨?_, _, q62⟩
          rw [z_fr_s, if_pos c_66, hw]
          rfl

theorem q_far (hM : MAt h u M) : h = mput h u (fM M 9 (M.1 9)) := by
  have e : fM M 9 (M.1 9) = M := by
    show (upd M.1 9 (M.1 9), M.2) = M
    rw [upd_id]
  rw [e]
  exact (mput_self hM).symm
set_option maxHeartbeats 4000000 in
set_option maxRecDepth 100000 in
theorem c_X10_farBy (hM : MAt h u M) {sn : Nat} (hn : sn ≤ 8) (hsn : M.2.1 10 = nI sn) {i t : Nat} (hi : i < 8) (ht : t < 8) {side : Int32} : Spec l D cA N0 m_X10_farBy 3 0 0 [.ref u, .int (nI i), .int side, .int (nI t)] h (fun r h' => r = some (.int (z_far M.2.1 sn i side t)) ∧ ∃ v, h' = mput h u (fM M 9 v)) := by
  refine Spec.of (L := [some (.ref u), some (.int (nI i)), some (.int side), some (.int (nI t)), none, none]) (by decide) rfl (Nat.le_of_ble_eq_true rfl) ?_
  have q0 : h = mput h u M := (mput_self hM).symm
  have mo0 := hM.o
  have ms0 := hM.s
  have mb0 := hM.b
  have mt0 := hM.t
  have mn0 := hM.n
  have mc0 := hM.c
  refine R_aload_n0 (pc := 0) dX10_farBy_0 ?_
  refine R_iload_n1 (pc := 1) dX10_farBy_1 ?_
  refine R_callV1 (pc := 2) (T := TX10) cal_X10_floats kw962 kw964 kw33 dX10_farBy_2 (c_X10_floats hM (by assumption)) (by decide) (Nat.le_of_ble_eq_true rfl) (ci := 8) rfl (by assumption) ?_
  rintro _ _ ⟨rfl, rfl⟩
  refine R_ifb_eq (pc := 5) 23 dX10_farBy_5 (by decide) (fun c_5 => ?_) (fun c_5 => ?_)
  · skip
    refine R_iconst (pc := 23) (v := 0) dX10_farBy_23 (by decide) ?_
    refine R_iret (pc := 24) rfl rfl dX10_farBy_24 ?_
    exact ⟨by rw [z_far, if_neg (fun z => c_5 z.1)], _, q_far hM⟩
  · skip
    refine R_aload_n0 (pc := 8) dX10_farBy_8 ?_
    refine R_iload_n1 (pc := 9) dX10_farBy_9 ?_
    refine R_iconst (pc := 10) (v := 0) dX10_farBy_10 (by decide) ?_
    refine R_callV2 (pc := 11) (T := TX10) cal_X10_get kw899 kw901 kw25 dX10_farBy_11 (c_X10_get hM (by assumption) (k := 0) (by decide)) (by decide) (Nat.le_of_ble_eq_true rfl) (ci := 8) rfl (by assumption) ?_
    rintro _ _ ⟨rfl, rfl⟩
    refine R_aload_n0 (pc := 14) dX10_farBy_14 ?_
    refine R_iload_n3 (pc := 15) dX10_farBy_15 ?_
    refine R_iconst (pc := 16) (v := 0) dX10_farBy_16 (by decide) ?_
    refine R_callV2 (pc := 17) (T := TX10) cal_X10_get kw899 kw901 kw25 dX10_farBy_17 (c_X10_get hM (by assumption) (k := 0) (by decide)) (by decide) (Nat.le_of_ble_eq_true rfl) (ci := 8) rfl (by assumption) ?_
    rintro _ _ ⟨rfl, rfl⟩
    refine R_icmp_ne (pc := 20) 25 dX10_farBy_20 (by decide) (fun c_20 => ?_) (fun c_20 => ?_)
    · skip
      refine R_iconst (pc := 25) (v := 0) dX10_farBy_25 (by decide) ?_
      refine R_istore4 (pc := 26) dX10_farBy_26 rfl (by decide) ?_
      rw [z_far, if_pos ⟨c_5, c_20⟩]
      exact L_X10_farBy hM hn hsn hi 2 0 _ _ none rfl (q_far hM) (Or.inl rfl)
    · skip
      refine R_iconst (pc := 23) (v := 0) dX10_farBy_23 (by decide) ?_
      refine R_iret (pc := 24) rfl rfl dX10_farBy_24 ?_
      exact ⟨by rw [z_far, if_neg (fun z => z.2 c_20)], _, q_far hM⟩

end LV25
