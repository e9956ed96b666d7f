/-! THE REFERENCE: its writing methods, on -/
theorem z_sz_le (x : Int32) : z_size x ≤ 6 := by
  unfold z_size zsz
  split
  · split <;> omega
  · omega
def z_sl (s : Nat → Int32) (i : Nat) (R : Bool × Int32 × Int32) : Nat → Int32 := px (px (px s i 1 R.2.1) i 2 R.2.2) i 10 (gx (px (px s i 1 R.2.1) i 2 R.2.2) i 10 ||| 1)
def z_goR (s : Nat → Int32) (sn i : Nat) (p : Int32) : Bool × Int32 × Int32 := z_go s sn i p.toNatClampNeg (z_size p) (gx s i 1) (gx s i 2)
def zw_sail2 (M : Mm) (sn m i : Nat) (p : Int32) : Int32 × Mm := if ¬ M.2.1 1 = 0 ∧ 0 ≤ gx M.2.1 i 1 ∧ ¬ z_has (gx M.2.1 i 10) 0 = true ∧ nI (z_size p) ≤ z_steps M.2.1 i (M.2.1 2) (M.2.1 3) ∧ (z_goR M.2.1 sn i p).1 = true then ((z_goR M.2.1 sn i p).2.1, sM (z_act M m) (z_sl M.2.1 i (z_goR M.2.1 sn i p))) else (-2, M)
def zw_sail (M : Mm) (sn m : Nat) (x p : Int32) : Int32 × Mm := if (0 ≤ x ∧ x < nI sn) ∧ ¬ z_size p = 0 then zw_sail2 M sn m x.toNatClampNeg p else (-1, M)
def z_fs (s : Nat → Int32) (i k t : Nat) (hits : Int32) : Nat → Int32 :=
  let s4 := z_lose (z_lose (z_lose (z_lose s t 3 hits) t 5 (hits / 3)) t 4 (hits / 4)) t 6 (hits / 6)
  let s5 := px s4 i (8 + k) (s4 0)
  let s6 := px s5 i 10 (gx s5 i 10 ||| 2)
  if gx s6 t 3 = 0 then px (z_cutf s6 t) t 1 (-1) else s6
def zw_fire2 (M : Mm) (sn m i k t : Nat) : Int32 × Mm := if ¬ M.2.1 1 = 0 ∧ ¬ z_far M.2.1 sn i (nI k) t = 0 ∧ z_may M.2.1 i k = true then (z_hits M.2.1 i (z_far M.2.1 sn i (nI k) t), sM (z_act M m) (z_fs M.2.1 i k t (z_hits M.2.1 i (z_far M.2.1 sn i (nI k) t)))) else (-2, M)
def zw_fire (M : Mm) (sn m : Nat) (x side y : Int32) : Int32 × Mm := if ((0 ≤ x ∧ x < nI sn) ∧ (0 ≤ y ∧ y < nI sn) ∧ ¬ x = y) ∧ 0 ≤ side ∧ side ≤ 1 then zw_fire2 M sn m x.toNatClampNeg side.toNatClampNeg y.toNatClampNeg else (-1, M)
def z_gr (s : Nat → Int32) (i j : Nat) : Nat → Int32 := px (px s i 7 (nI j)) j 7 (nI i)
def zw_grap2 (M : Mm) (m i j : Nat) : Int32 × Mm := if (M.2.1 1 = 1 ∧ 0 ≤ gx M.2.1 i 1 ∧ 0 ≤ gx M.2.1 j 1 ∧ gx M.2.1 i 7 < 0 ∧ gx M.2.1 j 7 < 0) ∧ ¬ gx M.2.1 i 0 = gx M.2.1 j 0 ∧ z_bes (gx M.2.1 i 1) (gx M.2.1 j 1) 6 = true ∧ gx M.2.1 j 5 ≤ 2 * gx M.2.1 i 5 then (gx (z_gr M.2.1 i j) i 5 + gx (z_gr M.2.1 i j) j 5, sM (z_act M m) (z_gr M.2.1 i j)) else (-2, M)
def zw_grap (M : Mm) (sn m : Nat) (x y : Int32) : Int32 × Mm := if (0 ≤ x ∧ x < nI sn) ∧ (0 ≤ y ∧ y < nI sn) ∧ ¬ x = y then zw_grap2 M m x.toNatClampNeg y.toNatClampNeg else (-1, M)
def zw_cut2 (M : Mm) (m i : Nat) : Int32 × Mm := if ¬ M.2.1 1 = 0 ∧ 0 ≤ gx M.2.1 i 7 ∧ gx M.2.1 (gx M.2.1 i 7).toNatClampNeg 5 ≤ gx M.2.1 i 5 then (gx M.2.1 i 7, sM (z_act M m) (z_cutf M.2.1 i)) else (-2, M)
def zw_cut (M : Mm) (sn m : Nat) (x : Int32) : Int32 × Mm := if 0 ≤ x ∧ x < nI sn then zw_cut2 M m x.toNatClampNeg else (-1, M)
def z_of (w : Int32) : Nat := if w = 0 then 3 else if w = 1 then 4 else 6
def z_cost (w g : Int32) : Int32 := if w = 0 then g else w + 1
def z_rp (s : Nat → Int32) (i c : Nat) (w g : Int32) : Nat → Int32 :=
  let s1 := upd s (8 + c) (s (8 + c) - z_cost w g)
  px (px s1 i (z_of w) (gx s1 i (z_of w) + g)) i 10 4
def zw_rep2 (M : Mm) (m i c : Nat) (w : Int32) : Int32 × Mm := if M.2.1 1 = 1 ∧ 0 ≤ gx M.2.1 i 1 ∧ gx M.2.1 i 7 < 0 ∧ gx M.2.1 i 10 = 0 ∧ ¬ z_gain M.2.1 i c w = 0 then (z_gain M.2.1 i c w, sM (z_act M m) (z_rp M.2.1 i c w (z_gain M.2.1 i c w))) else (-2, M)
def zw_rep (M : Mm) (sn m : Nat) (x w : Int32) : Int32 × Mm := if (0 ≤ x ∧ x < nI sn) ∧ 0 ≤ w ∧ w ≤ 2 then zw_rep2 M m x.toNatClampNeg (gx M.2.1 x.toNatClampNeg 0).toNatClampNeg w else (-1, M)
/-- who is grappled is so with a ship -/
def Wok (s : Nat → Int32) : Prop := ∀ i, i < 8 → gx s i 7 < 0 ∨ ∃ j, j < 8 ∧ gx s i 7 = nI j
section LV32
variable {l : Launch} {D : va_G} {cA : Nat → ClassId} {N0 : Nat} {h : AH} {u : Nat} {M : Mm}
theorem c_X10_getI {y : Int32} {k : Nat} (hM : MAt h u M) (hy : ∃ j, j < 8 ∧ y = nI j) (hk : k < 11) : Spec l D cA N0 m_X10_get 0 0 0 [.ref u, .int y, .int (nI k)] h (fun r h' => r = some (.int (gx M.2.1 y.toNatClampNeg k)) ∧ h' = h) := by
  obtain ⟨j, hj, rfl⟩ := hy
  rw [nI_clamp (show j < 2 ^ 31 by omega)]
  exact c_X10_get hM hj hk
set_option maxHeartbeats 4000000 in
set_option maxRecDepth 100000 in
theorem L_X10_tell {c x sm : Int32} : ∀ (n i : Nat) (s : Nat → Int32) (h1 : AH), i + n = 2 → h1 = mput h u (sM M s) → RunM l D cA N0 m_X10_tell 2 0 0 (fun r h' => r = some (.int (z_told (upd (zk z_lay s i n) 1 1))) ∧ h' = mput h u (sM M (upd (zk z_lay s i n) 1 1))) h1 0 0 142 [some (.ref u), some (.int c), some (.int x), some (.int sm), some (.int (nI i))] [] := by
  intro n
  induction n with
  | zero =>
    intro i s h1 hi q1
    have hM1 := mAt q1
    have mo1 := hM1.o
    have ms1 := hM1.s
    have mb1 := hM1.b
    have mt1 := hM1.t
    have mn1 := hM1.n
    have mc1 := hM1.c
    refine R_iload4 (pc := 142) dX10_tell_142 ?_
    refine R_iconst (pc := 144) (v := 2) dX10_tell_144 (by decide) ?_
    refine R_icmp_ge (pc := 145) 226 dX10_tell_145 (by decide) (fun c_145 => ?_) (fun c_145 => absurd (by rw [show i = 2 by omega]; decide) c_145)
    refine R_aload_n0 (pc := 226) dX10_tell_226 ?_
    refine G_X10_7 (pc := 227) dX10_tell_227 (by assumption) ?_
    refine R_iconst (pc := 230) (v := 1) dX10_tell_230 (by decide) ?_
    refine R_iconst (pc := 231) (v := 1) dX10_tell_231 (by decide) ?_
    refine R_iastF (pc := 232) dX10_tell_232 (by assumption) (in_n (i := 1) (by decide) (by decide)) (fun h1 e1 f1 => ?_)
    rw [show ((1 : Int32)).toNatClampNeg = 1 from rfl] at e1 f1
    have q1 := mstep_s q1 e1
    have hM1 := mAt q1
    have mo1 := hM1.o
    have ms1 := hM1.s
    have mb1 := hM1.b
    have mt1 := hM1.t
    have mn1 := hM1.n
    have mc1 := hM1.c
    refine R_aload_n0 (pc := 233) dX10_tell_233 ?_
    refine R_callV0 (pc := 234) (T := TX10) cal_X10_toldSet kw946 kw948 kw31 dX10_tell_234 (c_X10_toldSet hM1) (by decide) (Nat.le_of_ble_eq_true rfl) (ci := 8) rfl (by assumption) ?_
    rintro _ _ ⟨rfl, rfl⟩
    refine R_iret (pc := 237) rfl rfl dX10_tell_237 ?_
    exact ⟨rfl, q1⟩
  | succ n ih =>
    intro i s h1 hi q1
    have hM1 := mAt q1
    have mo1 := hM1.o
    have ms1 := hM1.s
    have mb1 := hM1.b
    have mt1 := hM1.t
    have mn1 := hM1.n
    have mc1 := hM1.c
    refine R_iload4 (pc := 142) dX10_tell_142 ?_
    refine R_iconst (pc := 144) (v := 2) dX10_tell_144 (by decide) ?_
    refine R_icmp_ge (pc := 145) 226 dX10_tell_145 (by decide) (fun c_145 => absurd c_145 (nI_ge (show i < 2 by omega) (by decide))) (fun c_145 => ?_)
    refine R_aload_n0 (pc := 148) dX10_tell_148 ?_
    refine G_X10_7 (pc := 149) dX10_tell_149 (by assumption) ?_
    refine R_iconst (pc := 152) (v := 4) dX10_tell_152 (by decide) ?_
    refine R_iload4 (pc := 153) dX10_tell_153 ?_
    refine R_iadd (pc := 155) dX10_tell_155 ?_
    rw [show (4 : Int32) + nI i = nI (4 + i) from nI_add 4 i]
    refine R_dup2 (pc := 156) dX10_tell_156 rfl rfl ?_
    refine R_iald (pc := 157) dX10_tell_157 (by assumption) (in_n (show 4 + i < 545 by omega) (by decide)) ?_
    rw [nI_clamp (show 4 + i < 2 ^ 31 by omega)]
    refine R_iconst (pc := 158) (v := 1) dX10_tell_158 (by decide) ?_
    refine R_aload_n0 (pc := 159) dX10_tell_159 ?_
    refine G_X10_7 (pc := 160) dX10_tell_160 (by assumption) ?_
    refine R_bipush (pc := 163) (v := 6) dX10_tell_163 (by decide) ?_
    refine R_iload4 (pc := 165) dX10_tell_165 ?_
    refine R_iadd (pc := 167) dX10_tell_167 ?_
    rw [show (6 : Int32) + nI i = nI (6 + i) from nI_add 6 i]
    refine R_iald (pc := 168) dX10_tell_168 (by assumption) (in_n (show 6 + i < 545 by omega) (by decide)) ?_
    rw [nI_clamp (show 6 + i < 2 ^ 31 by omega)]
    refine R_ishl (pc := 169) dX10_tell_169 ?_
    refine R_iconst (pc := 170) (v := (-1)) dX10_tell_170 (by decide) ?_
    refine R_ixor (pc := 171) dX10_tell_171 ?_
    refine R_iand (pc := 172) dX10_tell_172 ?_
    refine R_iastF (pc := 173) dX10_tell_173 (by assumption) (in_n (show 4 + i < 545 by omega) (by decide)) (fun h1 e1 f1 => ?_)
    rw [nI_clamp (show 4 + i < 2 ^ 31 by omega)] at e1 f1
    have q1 := mstep_s q1 e1
    have hM1 := mAt q1
    have mo1 := hM1.o
    have ms1 := hM1.s
    have mb1 := hM1.b
    have mt1 := hM1.t
    have mn1 := hM1.n
    have mc1 := hM1.c
    refine R_aload_n0 (pc := 174) dX10_tell_174 ?_
    refine G_X10_7 (pc := 175) dX10_tell_175 (by assumption) ?_
    refine R_iconst (pc := 178) (v := 4) dX10_tell_178 (by decide) ?_
    refine R_iload4 (pc := 179) dX10_tell_179 ?_
    refine R_iadd (pc := 181) dX10_tell_181 ?_
    rw [show (4 : Int32) + nI i = nI (4 + i) from nI_add 4 i]
    refine R_aload_n0 (pc := 182) dX10_tell_182 ?_
    refine G_X10_7 (pc := 183) dX10_tell_183 (by assumption) ?_
    refine R_iconst (pc := 186) (v := 4) dX10_tell_186 (by decide) ?_
    refine R_iload4 (pc := 187) dX10_tell_187 ?_
    refine R_iadd (pc := 189) dX10_tell_189 ?_
    rw [show (4 : Int32) + nI i = nI (4 + i) from nI_add 4 i]
    refine R_iald (pc := 190) dX10_tell_190 (by assumption) (in_n (show 4 + i < 545 by omega) (by decide)) ?_
    rw [nI_clamp (show 4 + i < 2 ^ 31 by omega)]
    refine R_if_ne (pc := 191) 199 dX10_tell_191 (by decide) (fun c_191 => ?_) (fun c_191 => ?_)
    · skip
      refine R_aload_n0 (pc := 199) dX10_tell_199 ?_
      refine G_X10_7 (pc := 200) dX10_tell_200 (by assumption) ?_
      refine R_iconst (pc := 203) (v := 4) dX10_tell_203 (by decide) ?_
      refine R_iload4 (pc := 204) dX10_tell_204 ?_
      refine R_iadd (pc := 206) dX10_tell_206 ?_
      rw [show (4 : Int32) + nI i = nI (4 + i) from nI_add 4 i]
      refine R_iald (pc := 207) dX10_tell_207 (by assumption) (in_n (show 4 + i < 545 by omega) (by decide)) ?_
      rw [nI_clamp (show 4 + i < 2 ^ 31 by omega)]
      refine R_iastF (pc := 208) dX10_tell_208 (by assumption) (in_n (show 4 + i < 545 by omega) (by decide)) (fun h2 e2 f2 => ?_)
      rw [nI_clamp (show 4 + i < 2 ^ 31 by omega)] at e2 f2
      have q2 := mstep_s q1 e2
      have hM2 := mAt q2
      have mo2 := hM2.o
      have ms2 := hM2.s
      have mb2 := hM2.b
      have mt2 := hM2.t
      have mn2 := hM2.n
      have mc2 := hM2.c
      refine R_aload_n0 (pc := 209) dX10_tell_209 ?_
      refine G_X10_7 (pc := 210) dX10_tell_210 (by assumption) ?_
      refine R_bipush (pc := 213) (v := 6) dX10_tell_213 (by decide) ?_
      refine R_iload4 (pc := 215) dX10_tell_215 ?_
      refine R_iadd (pc := 217) dX10_tell_217 ?_
      rw [show (6 : Int32) + nI i = nI (6 + i) from nI_add 6 i]
      refine R_iconst (pc := 218) (v := (-1)) dX10_tell_218 (by decide) ?_
      refine R_iastF (pc := 219) dX10_tell_219 (by assumption) (in_n (show 6 + i < 545 by omega) (by decide)) (fun h3 e3 f3 => ?_)
      rw [nI_clamp (show 6 + i < 2 ^ 31 by omega)] at e3 f3
      have q3 := mstep_s q2 e3
      have hM3 := mAt q3
      have mo3 := hM3.o
      have ms3 := hM3.s
      have mb3 := hM3.b
      have mt3 := hM3.t
      have mn3 := hM3.n
      have mc3 := hM3.c
      refine R_iinc4 (pc := 220) dX10_tell_220 rfl (by decide) ?_
      refine R_goto (pc := 223) 142 dX10_tell_223 (by decide) ?_
      rw [nI_s, zk_s]
      exact ih (i + 1) _ _ (by omega) (by rw [q3]; simp only [z_lay]; rw [if_neg (show ¬ upd s (4 + i) (s (4 + i) &&& (1 <<< (s (6 + i) &&& 31) ^^^ (-1))) (4 + i) = 0 from c_191)]; rfl)
    · skip
      refine R_bipush (pc := 194) (v := 63) dX10_tell_194 (by decide) ?_
      refine R_goto (pc := 196) 208 dX10_tell_196 (by decide) ?_
      refine R_iastF (pc := 208) dX10_tell_208 (by assumption) (in_n (show 4 + i < 545 by omega) (by decide)) (fun h4 e4 f4 => ?_)
      rw [nI_clamp (show 4 + i < 2 ^ 31 by omega)] at e4 f4
      have q4 := mstep_s q1 e4
      have hM4 := mAt q4
      have mo4 := hM4.o
      have ms4 := hM4.s
      have mb4 := hM4.b
      have mt4 := hM4.t
      have mn4 := hM4.n
      have mc4 := hM4.c
      refine R_aload_n0 (pc := 209) dX10_tell_209 ?_
      refine G_X10_7 (pc := 210) dX10_tell_210 (by assumption) ?_
      refine R_bipush (pc := 213) (v := 6) dX10_tell_213 (by decide) ?_
      refine R_iload4 (pc := 215) dX10_tell_215 ?_
      refine R_iadd (pc := 217) dX10_tell_217 ?_
      rw [show (6 : Int32) + nI i = nI (6 + i) from nI_add 6 i]
      refine R_iconst (pc := 218) (v := (-1)) dX10_tell_218 (by decide) ?_
      refine R_iastF (pc := 219) dX10_tell_219 (by assumption) (in_n (show 6 + i < 545 by omega) (by decide)) (fun h5 e5 f5 => ?_)
      rw [nI_clamp (show 6 + i < 2 ^ 31 by omega)] at e5 f5
      have q5 := mstep_s q4 e5
      have hM5 := mAt q5
      have mo5 := hM5.o
      have ms5 := hM5.s
      have mb5 := hM5.b
      have mt5 := hM5.t
      have mn5 := hM5.n
      have mc5 := hM5.c
      refine R_iinc4 (pc := 220) dX10_tell_220 rfl (by decide) ?_
      refine R_goto (pc := 223) 142 dX10_tell_223 (by decide) ?_
      rw [nI_s, zk_s]
      exact ih (i + 1) _ _ (by omega) (by rw [q5]; simp only [z_lay]; rw [if_pos (show upd s (4 + i) (s (4 + i) &&& (1 <<< (s (6 + i) &&& 31) ^^^ (-1))) (4 + i) = 0 from c_191)]; rfl)

set_option maxHeartbeats 4000000 in
set_option maxRecDepth 100000 in
theorem c_X10_tell (hM : MAt h u M) {m : Nat} (hm : m ≤ 6) (hmu : M.1 3 = nI m) {c x : Int32} : Spec l D cA N0 m_X10_tell 2 0 0 [.ref u, .int c, .int x] h (fun r h' => r = some (.int (zw_tell M m c x).1) ∧ ∃ M2, h' = mput h u M2 ∧ Ms (zw_tell M m c x).2 M2) := by
  refine Spec.of (L := [some (.ref u), some (.int c), some (.int x), none, none]) (by decide) rfl (Nat.le_of_ble_eq_true rfl) ?_
  have q0 : h = mput h u M := (mput_self hM).symm
  have mo0 := hM.o
  have ms0 := hM.s
  have mb0 := hM.b
  have mt0 := hM.t
  have mn0 := hM.n
  have mc0 := hM.c
  refine R_iload_n1 (pc := 0) dX10_tell_0 ?_
  refine R_callS1 (pc := 1) cal_X10_isCaptain kw919 kw920 dX10_tell_1 c_X10_isCaptain (by decide) (Nat.le_of_ble_eq_true rfl) ?_
  rintro _ _ ⟨rfl, rfl⟩
  refine R_ifb_eq (pc := 4) 19 dX10_tell_4 (by decide) (fun c_4 => ?_) (fun c_4 => ?_)
  · skip
    refine R_iconst (pc := 19) (v := (-1)) dX10_tell_19 (by decide) ?_
    refine R_iret (pc := 20) rfl rfl dX10_tell_20 ?_
    exact ⟨by rw [zw_tell, if_neg (fun z => c_4 z.1)], _, q0, by rw [zw_tell, if_neg (fun z => c_4 z.1)]; exact Ms.rf M⟩
  · skip
    obtain ⟨k, hk, ek⟩ := ge0 (n := 1) c_4.1 (by decide) c_4.2
    have hck : (nI k).toNatClampNeg = k := nI_clamp (by omega)
    subst ek
    refine R_iload_n2 (pc := 7) dX10_tell_7 ?_
    refine R_i2l (pc := 8) dX10_tell_8 ?_
    refine R_lconst (pc := 9) (v := 0) dX10_tell_9 (by decide) ?_
    refine R_ldc2 (pc := 10) dX10_tell_10 kw922 ?_
    refine R_callS3 (pc := 13) cal_X10_in kw892 kw893 dX10_tell_13 (c_X10_in rfl (lo := 0) (by decide) (hi := 5) (by decide)) (by decide) (Nat.le_of_ble_eq_true rfl) ?_
    rintro _ _ ⟨rfl, rfl⟩
    refine R_ifb_ne (pc := 16) 21 dX10_tell_16 (by decide) (fun c_16 => ?_) (fun c_16 => ?_)
    · skip
      refine R_aload_n0 (pc := 21) dX10_tell_21 ?_
      refine G_X10_7 (pc := 22) dX10_tell_22 (by assumption) ?_
      refine R_iconst (pc := 25) (v := 1) dX10_tell_25 (by decide) ?_
      refine R_iald (pc := 26) dX10_tell_26 (by assumption) (in_n (i := 1) (by decide) (by decide)) ?_
      rw [show ((1 : Int32)).toNatClampNeg = 1 from rfl]
      refine R_iconst (pc := 27) (v := 1) dX10_tell_27 (by decide) ?_
      refine R_icmp_eq (pc := 28) 58 dX10_tell_28 (by decide) (fun c_28 => ?_) (fun c_28 => ?_)
      · skip
        refine R_bipush (pc := 58) (v := (-2)) dX10_tell_58 (by decide) ?_
        refine R_iret (pc := 60) rfl rfl dX10_tell_60 ?_
        exact ⟨by rw [zw_tell, if_pos ⟨c_4, c_16⟩, hck, if_pos (Or.inl c_28)], _, q0, by rw [zw_tell, if_pos ⟨c_4, c_16⟩, hck, if_pos (Or.inl c_28)]; exact Ms.rf M⟩
      · skip
        refine R_aload_n0 (pc := 31) dX10_tell_31 ?_
        refine G_X10_7 (pc := 32) dX10_tell_32 (by assumption) ?_
        refine R_bipush (pc := 35) (v := 6) dX10_tell_35 (by decide) ?_
        refine R_iload_n1 (pc := 37) dX10_tell_37 ?_
        refine R_iadd (pc := 38) dX10_tell_38 ?_
        rw [show (6 : Int32) + nI k = nI (6 + k) from nI_add 6 k]
        refine R_iald (pc := 39) dX10_tell_39 (by assumption) (in_n (show 6 + k < 545 by omega) (by decide)) ?_
        rw [nI_clamp (show 6 + k < 2 ^ 31 by omega)]
        refine R_if_ge (pc := 40) 58 dX10_tell_40 (by decide) (fun c_40 => ?_) (fun c_40 => ?_)
        · skip
          have d_40 := Int32.not_lt.mpr c_40
          refine R_bipush (pc := 58) (v := (-2)) dX10_tell_58 (by decide) ?_
          refine R_iret (pc := 60) rfl rfl dX10_tell_60 ?_
          exact ⟨by rw [zw_tell, if_pos ⟨c_4, c_16⟩, hck, if_pos (Or.inr (Or.inl c_40))], _, q0, by rw [zw_tell, if_pos ⟨c_4, c_16⟩, hck, if_pos (Or.inr (Or.inl c_40))]; exact Ms.rf M⟩
        · skip
          have d_40 := Int32.not_le.mp c_40
          refine R_aload_n0 (pc := 43) dX10_tell_43 ?_
          refine G_X10_7 (pc := 44) dX10_tell_44 (by assumption) ?_
          refine R_iconst (pc := 47) (v := 4) dX10_tell_47 (by decide) ?_
          refine R_iload_n1 (pc := 48) dX10_tell_48 ?_
          refine R_iadd (pc := 49) dX10_tell_49 ?_
          rw [show (4 : Int32) + nI k = nI (4 + k) from nI_add 4 k]
          refine R_iald (pc := 50) dX10_tell_50 (by assumption) (in_n (show 4 + k < 545 by omega) (by decide)) ?_
          rw [nI_clamp (show 4 + k < 2 ^ 31 by omega)]
          refine R_iload_n2 (pc := 51) dX10_tell_51 ?_
          refine R_callS2 (pc := 52) cal_X10_has kw943 kw944 dX10_tell_52 c_X10_has (by decide) (Nat.le_of_ble_eq_true rfl) ?_
          rintro _ _ ⟨rfl, rfl⟩
          refine R_ifb_ne (pc := 55) 61 dX10_tell_55 (by decide) (fun c_55 => ?_) (fun c_55 => ?_)
          · skip
            refine R_aload_n0 (pc := 61) dX10_tell_61 ?_
            refine R_callV0 (pc := 62) (T := TX10) cal_X10_act kw903 kw905 kw26 dX10_tell_62 (c_X10_act hM hm hmu) (by decide) (Nat.le_of_ble_eq_true rfl) (ci := 8) rfl (by assumption) ?_
            rintro _ h62 ⟨rfl, e62⟩
            obtain ⟨F2, b2, hact, hF2⟩ := z_act_form M m
            rw [hact] at e62
            have q62 : h62 = mput _ u (F2, M.2.1, b2, M.2.2.2) := mstep_M q0 e62
            have hM62 := mAt q62
            have mo62 := hM62.o
            have ms62 := hM62.s
            have mb62 := hM62.b
            have mt62 := hM62.t
            have mn62 := hM62.n
            have mc62 := hM62.c
            refine R_aload_n0 (pc := 65) dX10_tell_65 ?_
            refine G_X10_7 (pc := 66) dX10_tell_66 (by assumption) ?_
            refine R_bipush (pc := 69) (v := 6) dX10_tell_69 (by decide) ?_
            refine R_iload_n1 (pc := 71) dX10_tell_71 ?_
            refine R_iadd (pc := 72) dX10_tell_72 ?_
            rw [show (6 : Int32) + nI k = nI (6 + k) from nI_add 6 k]
            refine R_iload_n2 (pc := 73) dX10_tell_73 ?_
            refine R_iastF (pc := 74) dX10_tell_74 (by assumption) (in_n (show 6 + k < 545 by omega) (by decide)) (fun h1 e1 f1 => ?_)
            rw [nI_clamp (show 6 + k < 2 ^ 31 by omega)] at e1 f1
            have q1 := mstep_s q62 e1
            have hM1 := mAt q1
            have mo1 := hM1.o
            have ms1 := hM1.s
            have mb1 := hM1.b
            have mt1 := hM1.t
            have mn1 := hM1.n
            have mc1 := hM1.c
            refine R_aload_n0 (pc := 75) dX10_tell_75 ?_
            refine G_X10_7 (pc := 76) dX10_tell_76 (by assumption) ?_
            refine R_bipush (pc := 79) (v := 6) dX10_tell_79 (by decide) ?_
            refine R_iald (pc := 81) dX10_tell_81 (by assumption) (in_n (i := 6) (by decide) (by decide)) ?_
            rw [show ((6 : Int32)).toNatClampNeg = 6 from rfl]
            refine R_if_lt (pc := 82) 233 dX10_tell_82 (by decide) (fun c_82 => ?_) (fun c_82 => ?_)
            · skip
              have d_82 := Int32.not_le.mpr c_82
              refine R_aload_n0 (pc := 233) dX10_tell_233 ?_
              refine R_callV0 (pc := 234) (T := TX10) cal_X10_toldSet kw946 kw948 kw31 dX10_tell_234 (c_X10_toldSet hM1) (by decide) (Nat.le_of_ble_eq_true rfl) (ci := 8) rfl (by assumption) ?_
              rintro _ _ ⟨rfl, rfl⟩
              refine R_iret (pc := 237) rfl rfl dX10_tell_237 ?_
              have ht : z_tell1 M.2.1 k x = upd M.2.1 (6 + k) x := by rw [z_tell1, if_pos (show upd M.2.1 (6 + k) x 6 < 0 ∨ upd M.2.1 (6 + k) x 7 < 0 from Or.inl c_82)]
              refine ⟨?_, _, q1, ?_⟩
              · rw [zw_tell, if_pos ⟨c_4, c_16⟩, hck, if_neg (fun z => z.elim c_28 (fun z => z.elim c_40 (fun z => z c_55))), ht]
                try rfl
              · rw [zw_tell, if_pos ⟨c_4, c_16⟩, hck, if_neg (fun z => z.elim c_28 (fun z => z.elim c_40 (fun z => z c_55))), ht]
                exact Ms.fin (s := M.2.1) (Ms.rf M) hact _
            · skip
              have d_82 := Int32.not_lt.mp c_82
              refine R_aload_n0 (pc := 85) dX10_tell_85 ?_
              refine G_X10_7 (pc := 86) dX10_tell_86 (by assumption) ?_
              refine R_bipush (pc := 89) (v := 7) dX10_tell_89 (by decide) ?_
              refine R_iald (pc := 91) dX10_tell_91 (by assumption) (in_n (i := 7) (by decide) (by decide)) ?_
              rw [show ((7 : Int32)).toNatClampNeg = 7 from rfl]
              refine R_if_lt (pc := 92) 233 dX10_tell_92 (by decide) (fun c_92 => ?_) (fun c_92 => ?_)
              · skip
                have d_92 := Int32.not_le.mpr c_92
                refine R_aload_n0 (pc := 233) dX10_tell_233 ?_
                refine R_callV0 (pc := 234) (T := TX10) cal_X10_toldSet kw946 kw948 kw31 dX10_tell_234 (c_X10_toldSet hM1) (by decide) (Nat.le_of_ble_eq_true rfl) (ci := 8) rfl (by assumption) ?_
                rintro _ _ ⟨rfl, rfl⟩
                refine R_iret (pc := 237) rfl rfl dX10_tell_237 ?_
                have ht : z_tell1 M.2.1 k x = upd M.2.1 (6 + k) x := by rw [z_tell1, if_pos (show upd M.2.1 (6 + k) x 6 < 0 ∨ upd M.2.1 (6 + k) x 7 < 0 from Or.inr c_92)]
                refine ⟨?_, _, q1, ?_⟩
                · rw [zw_tell, if_pos ⟨c_4, c_16⟩, hck, if_neg (fun z => z.elim c_28 (fun z => z.elim c_40 (fun z => z c_55))), ht]
                  try rfl
                · rw [zw_tell, if_pos ⟨c_4, c_16⟩, hck, if_neg (fun z => z.elim c_28 (fun z => z.elim c_40 (fun z => z c_55))), ht]
                  exact Ms.fin (s := M.2.1) (Ms.rf M) hact _
              · skip
                have d_92 := Int32.not_lt.mp c_92
                refine R_aload_n0 (pc := 95) dX10_tell_95 ?_
                refine G_X10_7 (pc := 96) dX10_tell_96 (by assumption) ?_
                refine R_bipush (pc := 99) (v := 6) dX10_tell_99 (by decide) ?_
                refine R_iald (pc := 101) dX10_tell_101 (by assumption) (in_n (i := 6) (by decide) (by decide)) ?_
                rw [show ((6 : Int32)).toNatClampNeg = 6 from rfl]
                refine R_aload_n0 (pc := 102) dX10_tell_102 ?_
                refine G_X10_7 (pc := 103) dX10_tell_103 (by assumption) ?_
                refine R_bipush (pc := 106) (v := 7) dX10_tell_106 (by decide) ?_
                refine R_iald (pc := 108) dX10_tell_108 (by assumption) (in_n (i := 7) (by decide) (by decide)) ?_
                rw [show ((7 : Int32)).toNatClampNeg = 7 from rfl]
                refine R_iadd (pc := 109) dX10_tell_109 ?_
                refine R_istore_n3 (pc := 110) dX10_tell_110 rfl (by decide) ?_
                refine R_aload_n0 (pc := 111) dX10_tell_111 ?_
                refine G_X10_7 (pc := 112) dX10_tell_112 (by assumption) ?_
                refine R_iconst (pc := 115) (v := 2) dX10_tell_115 (by decide) ?_
                refine R_aload_n0 (pc := 116) dX10_tell_116 ?_
                refine G_X10_7 (pc := 117) dX10_tell_117 (by assumption) ?_
                refine R_iconst (pc := 120) (v := 2) dX10_tell_120 (by decide) ?_
                refine R_iald (pc := 121) dX10_tell_121 (by assumption) (in_n (i := 2) (by decide) (by decide)) ?_
                rw [show ((2 : Int32)).toNatClampNeg = 2 from rfl]
                refine R_iload_n3 (pc := 122) dX10_tell_122 ?_
                refine R_iadd (pc := 123) dX10_tell_123 ?_
                refine R_bipush (pc := 124) (v := 6) dX10_tell_124 (by decide) ?_
                refine R_irem (pc := 126) dX10_tell_126 (by decide) ?_
                refine R_iastF (pc := 127) dX10_tell_127 (by assumption) (in_n (i := 2) (by decide) (by decide)) (fun h2 e2 f2 => ?_)
                rw [show ((2 : Int32)).toNatClampNeg = 2 from rfl] at e2 f2
                have q2 := mstep_s q1 e2
                have hM2 := mAt q2
                have mo2 := hM2.o
                have ms2 := hM2.s
                have mb2 := hM2.b
                have mt2 := hM2.t
                have mn2 := hM2.n
                have mc2 := hM2.c
                refine R_aload_n0 (pc := 128) dX10_tell_128 ?_
                refine G_X10_7 (pc := 129) dX10_tell_129 (by assumption) ?_
                refine R_iconst (pc := 132) (v := 3) dX10_tell_132 (by decide) ?_
                refine R_iload_n3 (pc := 133) dX10_tell_133 ?_
                refine R_iconst (pc := 134) (v := 3) dX10_tell_134 (by decide) ?_
                refine R_irem (pc := 135) dX10_tell_135 (by decide) ?_
                refine R_iconst (pc := 136) (v := 1) dX10_tell_136 (by decide) ?_
                refine R_iadd (pc := 137) dX10_tell_137 ?_
                refine R_iastF (pc := 138) dX10_tell_138 (by assumption) (in_n (i := 3) (by decide) (by decide)) (fun h3 e3 f3 => ?_)
                rw [show ((3 : Int32)).toNatClampNeg = 3 from rfl] at e3 f3
                have q3 := mstep_s q2 e3
                have hM3 := mAt q3
                have mo3 := hM3.o
                have ms3 := hM3.s
                have mb3 := hM3.b
                have mt3 := hM3.t
                have mn3 := hM3.n
                have mc3 := hM3.c
                refine R_iconst (pc := 139) (v := 0) dX10_tell_139 (by decide) ?_
                refine R_istore4 (pc := 140) dX10_tell_140 rfl (by decide) ?_
                have ht : z_tell1 M.2.1 k x = z_beg (upd M.2.1 (6 + k) x) := by rw [z_tell1, if_neg (show ¬ (upd M.2.1 (6 + k) x 6 < 0 ∨ upd M.2.1 (6 + k) x 7 < 0) from fun z => z.elim c_82 c_92)]
                refine R_post (fun r h9 q9 => ?_) (L_X10_tell (M := (F2, M.2.1, b2, M.2.2.2)) 2 0 _ _ rfl q3)
                refine ⟨?_, _, q9.2, ?_⟩
                · rw [zw_tell, if_pos ⟨c_4, c_16⟩, hck, if_neg (fun z => z.elim c_28 (fun z => z.elim c_40 (fun z => z c_55))), ht]
                  exact q9.1
                · rw [zw_tell, if_pos ⟨c_4, c_16⟩, hck, if_neg (fun z => z.elim c_28 (fun z => z.elim c_40 (fun z => z c_55))), ht]
                  exact Ms.fin (s := M.2.1) (Ms.rf M) hact _
          · skip
            refine R_bipush (pc := 58) (v := (-2)) dX10_tell_58 (by decide) ?_
            refine R_iret (pc := 60) rfl rfl dX10_tell_60 ?_
            exact ⟨by rw [zw_tell, if_pos ⟨c_4, c_16⟩, hck, if_pos (Or.inr (Or.inr c_55))], _, q0, by rw [zw_tell, if_pos ⟨c_4, c_16⟩, hck, if_pos (Or.inr (Or.inr c_55))]; exact Ms.rf M⟩
    · skip
      refine R_iconst (pc := 19) (v := (-1)) dX10_tell_19 (by decide) ?_
      refine R_iret (pc := 20) rfl rfl dX10_tell_20 ?_
      exact ⟨by rw [zw_tell, if_neg (fun z => c_16 z.2)], _, q0, by rw [zw_tell, if_neg (fun z => c_16 z.2)]; exact Ms.rf M⟩

end LV32
