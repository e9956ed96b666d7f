/-! STATE AND HISTORY of the class -/
def Frm (h h' : AH) (a n : Nat) : Prop := h'.1 = h.1 ∧ ∀ q, q < a ∨ a + n ≤ q → h'.2 q = h.2 q
theorem Frm.rf (h : AH) (a n : Nat) : Frm h h a n := ⟨rfl, fun _ _ => rfl⟩
theorem Frm.tr {h h1 h2 : AH} {a n : Nat} (e : Frm h h1 a n) (e2 : Frm h1 h2 a n) : Frm h h2 a n := ⟨e2.1.trans e.1, fun q hq => (e2.2 q hq).trans (e.2 q hq)⟩
theorem Frm.up {h h1 : AH} {a n b m : Nat} (e : Frm h h1 a n) (z1 : b ≤ a) (z2 : a + n ≤ b + m) : Frm h h1 b m := ⟨e.1, fun q hq => e.2 q (by omega)⟩
def bz (G : Gm) : Prop := G.1 1 = 0 ∨ G.1 1 = 1
def sBz (S : Sm) : Prop := bz S.1 ∧ bz S.2.1 ∧ bz S.2.2.1
theorem st_gput {h h' : AH} {s : Nat} {S : Sm} {G : Gm} (q : StAt h s S) (e : h' = gput h (sA s 0) G) : StAt h' s (G, S.2) ∧ Frm h h' s 40 := by
  subst e
  refine ⟨⟨?_, gput_at _ _ _, ?_, ?_⟩, rfl, fun x hx => gput_out _ _ _ (by unfold sA; omega)⟩
  · rw [gput_out _ _ _ (by unfold sA; omega)]; exact q.1
  · exact gAt_keep q.2.2.1 (fun x h1 h2 => gput_out _ _ _ (by unfold sA at *; omega))
  · exact gAt_keep q.2.2.2 (fun x h1 h2 => gput_out _ _ _ (by unfold sA at *; omega))
def sl (s : Nat) (x : Int32) : Nat := if x = 0 then sA s 1 else sA s 2
def sv (S : Sm) (x : Int32) : Gm := if x = 0 then S.2.1 else S.2.2.1
theorem sl_at {h : AH} {s : Nat} {S : Sm} (q : StAt h s S) (x : Int32) : GmAt h (sl s x) (sv S x) := by
  unfold sl sv
  split
  · exact q.2.2.1
  · exact q.2.2.2
theorem sl_le (s : Nat) (x : Int32) : sA s 0 + 13 ≤ sl s x ∧ sl s x + 13 ≤ s + 40 := by
  unfold sl sA
  split <;> omega
def s_fill (S : Sm) (x : Int32) : Int32 × Sm := if 0 ≤ x ∧ x ≤ 1 then (S.1.1 0, (S.1, if x = 0 then S.1 else S.2.1, if x = 0 then S.2.2.1 else S.1, S.2.2.2 ||| 1 <<< (x &&& 31))) else (-1, S)
def s_resume (S : Sm) (x : Int32) : Int32 × Sm := if 0 ≤ x ∧ x ≤ 1 then (if S.2.2.2 >>> (x &&& 31) &&& 1 = 0 then (-2, S) else ((sv S x).1 0, (sv S x, S.2))) else (-1, S)
section LV11
variable {l : Launch} {D : va_G} {cA : Nat → ClassId} {N0 : Nat} {own : String} {cc : ByteArray} {nL : Nat} {ret : Option FieldType} {nm : String} {R : Room} {X : State → Prop} {F : List Frame → Array Value → State → State → Prop} {h : AH} {k n pc : Nat} {L : List (Option Value)} {st : List Value}
theorem R_ald3 {a N : Nat} {r : Nat → Nat} {j : Int32} (hd : decode cc pc = .ok (.aaload, 1)) (ha : h.2 a = some (.inl (3, N, .inr (.inr (.inr (.inr (fun j => some (r j)))))))) (hj : vp_in j N) (kk : Run l D cA N0 own cc nL ret nm R X F h k n (pc + 1) L (.ref (r j.toNatClampNeg) :: st)) : Run l D cA N0 own cc nL ret nm R X F h k n pc L (.int j :: .ref a :: st) := R_aald3 hd ha hj kk
theorem R_ast3 {a N v : Nat} {r : Nat → Nat} {fs : List Value} {j : Int32} (hd : decode cc pc = .ok (.aastore, 1)) (ha : h.2 a = some (.inl (3, N, .inr (.inr (.inr (.inr (fun j => some (r j)))))))) (hj : vp_in j N) (hv : h.2 v = some (.inr (6, fs))) (kk : ∀ h1 : AH, h1 = hput h a (.inl (3, N, .inr (.inr (.inr (.inr (fun x => some (va_up r j.toNatClampNeg v x))))))) → h1.2 a = some (.inl (3, N, .inr (.inr (.inr (.inr (fun x => some (va_up r j.toNatClampNeg v x))))))) → Run l D cA N0 own cc nL ret nm R X F h1 k n (pc + 1) L st) : Run l D cA N0 own cc nL ret nm R X F h k n pc L (.ref v :: .int j :: .ref a :: st) := by
  refine R_aast3 hd ha hj hv ?_
  have e : va_up (fun j => some (r j)) j.toNatClampNeg (some v) = fun x => some (va_up r j.toNatClampNeg v x) := by
    funext x
    simp only [va_up]
    split <;> rfl
  rw [e]
  exact kk _ rfl (hput_at h a _)
end LV11
section LV11b
variable {l : Launch} {D : va_G} {cA : Nat → ClassId} {N0 : Nat} {h : AH} {s s2 : Nat} {S S2 : Sm}
set_option maxHeartbeats 4000000 in
set_option maxRecDepth 100000 in
theorem c_X8_copyFrom (hS : StAt h s S) (hT : StAt h s2 S2) (hd : s2 + 40 ≤ s ∨ s + 40 ≤ s2) (hz : sBz S2) : Spec l D cA N0 m_X8_copyFrom 2 0 0 [.ref s, .ref s2] h (fun r h' => r = none ∧ h' = sput h s S2) := by
  refine Spec.of (L := [some (.ref s), some (.ref s2)]) (by decide) rfl (Nat.le_of_ble_eq_true rfl) ?_
  have qs := hS.o
  have qt := hT.o
  have A0 := hS.2.1
  have A1 := hS.2.2.1
  have A2 := hS.2.2.2
  have B0 := hT.2.1
  have B1 := hT.2.2.1
  have B2 := hT.2.2.2
  refine R_aload_n0 (pc := 0) dX8_copyFrom_0 ?_
  refine G_X8_12 (pc := 1) dX8_copyFrom_1 (by assumption) ?_
  refine R_aload_n1 (pc := 4) dX8_copyFrom_4 ?_
  refine G_X8_12 (pc := 5) dX8_copyFrom_5 (by assumption) ?_
  refine R_callV1 (pc := 8) (T := TX1) cal_X1_copyFrom kw262 kw263 kw264 dX8_copyFrom_8 (c_X1_copyFrom A0 B0 (by unfold sA; omega) hz.1) (by decide) (Nat.le_of_ble_eq_true rfl) (ci := 1) rfl A0.o0 ?_
  rintro _ h71 ⟨rfl, e71⟩
  have qs : h71.2 s = some (.inr (6, ob6 (sA s) (fun _ => S.2.2.2))) := (by rw [e71, gput_out _ _ _ (by unfold sA; omega)]; exact qs)
  have qt : h71.2 s2 = some (.inr (6, ob6 (sA s2) (fun _ => S2.2.2.2))) := (by rw [e71, gput_out _ _ _ (by unfold sA; omega)]; exact qt)
  have A1 : GmAt h71 (sA s 1) S.2.1 := (gAt_keep A1 (fun q z1 z2 => by rw [e71]; exact gput_out _ _ _ (by unfold sA at *; omega)))
  have B1 : GmAt h71 (sA s2 1) S2.2.1 := (gAt_keep B1 (fun q z1 z2 => by rw [e71]; exact gput_out _ _ _ (by unfold sA at *; omega)))
  have A2 : GmAt h71 (sA s 2) S.2.2.1 := (gAt_keep A2 (fun q z1 z2 => by rw [e71]; exact gput_out _ _ _ (by unfold sA at *; omega)))
  have B2 : GmAt h71 (sA s2 2) S2.2.2.1 := (gAt_keep B2 (fun q z1 z2 => by rw [e71]; exact gput_out _ _ _ (by unfold sA at *; omega)))
  refine R_aload_n0 (pc := 11) dX8_copyFrom_11 ?_
  refine G_X8_18 (pc := 12) dX8_copyFrom_12 (by assumption) ?_
  refine R_aload_n1 (pc := 15) dX8_copyFrom_15 ?_
  refine G_X8_18 (pc := 16) dX8_copyFrom_16 (by assumption) ?_
  refine R_callV1 (pc := 19) (T := TX1) cal_X1_copyFrom kw262 kw263 kw264 dX8_copyFrom_19 (c_X1_copyFrom A1 B1 (by unfold sA; omega) hz.2.1) (by decide) (Nat.le_of_ble_eq_true rfl) (ci := 1) rfl A1.o0 ?_
  rintro _ h72 ⟨rfl, e72⟩
  have qs : h72.2 s = some (.inr (6, ob6 (sA s) (fun _ => S.2.2.2))) := (by rw [e72, gput_out _ _ _ (by unfold sA; omega)]; exact qs)
  have qt : h72.2 s2 = some (.inr (6, ob6 (sA s2) (fun _ => S2.2.2.2))) := (by rw [e72, gput_out _ _ _ (by unfold sA; omega)]; exact qt)
  have A2 : GmAt h72 (sA s 2) S.2.2.1 := (gAt_keep A2 (fun q z1 z2 => by rw [e72]; exact gput_out _ _ _ (by unfold sA at *; omega)))
  have B2 : GmAt h72 (sA s2 2) S2.2.2.1 := (gAt_keep B2 (fun q z1 z2 => by rw [e72]; exact gput_out _ _ _ (by unfold sA at *; omega)))
  refine R_aload_n0 (pc := 22) dX8_copyFrom_22 ?_
  refine G_X8_21 (pc := 23) dX8_copyFrom_23 (by assumption) ?_
  refine R_aload_n1 (pc := 26) dX8_copyFrom_26 ?_
  refine G_X8_21 (pc := 27) dX8_copyFrom_27 (by assumption) ?_
  refine R_callV1 (pc := 30) (T := TX1) cal_X1_copyFrom kw262 kw263 kw264 dX8_copyFrom_30 (c_X1_copyFrom A2 B2 (by unfold sA; omega) hz.2.2) (by decide) (Nat.le_of_ble_eq_true rfl) (ci := 1) rfl A2.o0 ?_
  rintro _ h73 ⟨rfl, e73⟩
  have qs : h73.2 s = some (.inr (6, ob6 (sA s) (fun _ => S.2.2.2))) := (by rw [e73, gput_out _ _ _ (by unfold sA; omega)]; exact qs)
  have qt : h73.2 s2 = some (.inr (6, ob6 (sA s2) (fun _ => S2.2.2.2))) := (by rw [e73, gput_out _ _ _ (by unfold sA; omega)]; exact qt)
  refine R_aload_n0 (pc := 33) dX8_copyFrom_33 ?_
  refine R_aload_n1 (pc := 34) dX8_copyFrom_34 ?_
  refine G_X8_28 (pc := 35) dX8_copyFrom_35 (by assumption) ?_
  refine P_X8_28 (pc := 38) dX8_copyFrom_38 (by assumption) (fun h1 e1 f1 => ?_)
  refine R_vret (pc := 41) rfl dX8_copyFrom_41 ?_
  exact ⟨rfl, by rw [e1, e73, e72, e71]; rfl⟩

set_option maxHeartbeats 4000000 in
set_option maxRecDepth 100000 in
theorem c_X8_slotOf {x : Int32} (hS : StAt h s S) : Spec l D cA N0 m_X8_slotOf 0 0 0 [.ref s, .int x] h (fun r h' => r = some (.ref (sl s x)) ∧ h' = h) := by
  refine Spec.of (L := [some (.ref s), some (.int x)]) (by decide) rfl (Nat.le_of_ble_eq_true rfl) ?_
  have qs := hS.o
  refine R_iload_n1 (pc := 0) dX8_slotOf_0 ?_
  refine R_if_ne (pc := 1) 11 dX8_slotOf_1 (by decide) (fun c_1 => ?_) (fun c_1 => ?_)
  · skip
    refine R_aload_n0 (pc := 11) dX8_slotOf_11 ?_
    refine G_X8_21 (pc := 12) dX8_slotOf_12 (by assumption) ?_
    refine R_aret (pc := 15) rfl (Or.inr ⟨_, rfl⟩) dX8_slotOf_15 ?_
    exact ⟨by simp only [sl, c_1, if_true, if_false], rfl⟩
  · skip
    refine R_aload_n0 (pc := 4) dX8_slotOf_4 ?_
    refine G_X8_18 (pc := 5) dX8_slotOf_5 (by assumption) ?_
    refine R_goto (pc := 8) 15 dX8_slotOf_8 (by decide) ?_
    refine R_aret (pc := 15) rfl (Or.inr ⟨_, rfl⟩) dX8_slotOf_15 ?_
    exact ⟨by simp only [sl, c_1, if_true, if_false], rfl⟩

theorem fill_leaf {h h1 h2 : AH} {s : Nat} {S : Sm} {x : Int32} (hS : StAt h s S) (c1 : 0 ≤ x) (c2 : x ≤ 1) (e1 : h1 = gput h (sl s x) S.1) (e2 : h2 = hput h1 s (.inr (6, ob6 (sA s) (upd (fun _ => S.2.2.2) 3 (S.2.2.2 ||| 1 <<< (x &&& 31)))))) : some (Value.int (S.1.1 0)) = some (Value.int (s_fill S x).1) ∧ StAt h2 s (s_fill S x).2 ∧ Frm h h2 s 40 := by
  have qL := sl_le s x
  have hf : s_fill S x = (S.1.1 0, (S.1, if x = 0 then S.1 else S.2.1, if x = 0 then S.2.2.1 else S.1, S.2.2.2 ||| 1 <<< (x &&& 31))) := if_pos ⟨c1, c2⟩
  rw [hf]
  subst e2 e1
  have hlo : sA s 0 = s + 1 := rfl
  refine ⟨rfl, ⟨hput_at _ _ _, ?_, ?_, ?_⟩, rfl, fun q hq => ?_⟩
  · exact gAt_keep hS.2.1 (fun q z1 z2 => by rw [hput_ne _ _ (by omega), gput_out _ _ _ (by omega)])
  · by_cases hx : x = 0
    · simp only [hx, if_true]
      refine gAt_keep (gput_at h (sl s 0) S.1) (fun q z1 z2 => hput_ne _ _ ?_)
      have : sl s 0 = s + 14 := rfl
      have z1 : sA s 1 ≤ q := z1
      have : sA s 1 = s + 14 := rfl
      omega
    · simp only [hx, if_false]
      have hsl : sl s x = s + 27 := by unfold sl; rw [if_neg hx]; rfl
      refine gAt_keep hS.2.2.1 (fun q z1 z2 => ?_)
      have : sA s 1 = s + 14 := rfl
      rw [hput_ne _ _ (by omega), gput_out _ _ _ (by omega)]
  · by_cases hx : x = 0
    · simp only [hx, if_true]
      refine gAt_keep hS.2.2.2 (fun q z1 z2 => ?_)
      have : sl s 0 = s + 14 := rfl
      have : sA s 2 = s + 27 := rfl
      rw [hput_ne _ _ (by omega), gput_out _ _ _ (by omega)]
    · simp only [hx, if_false]
      have hsl : sl s x = sA s 2 := by unfold sl; rw [if_neg hx]
      rw [hsl]
      refine gAt_keep (gput_at h (sA s 2) S.1) (fun q z1 z2 => hput_ne _ _ ?_)
      have : sA s 2 = s + 27 := rfl
      omega
  · rw [hput_ne _ _ (by omega), gput_out _ _ _ (by omega)]
set_option maxHeartbeats 4000000 in
set_option maxRecDepth 100000 in
theorem c_X8_fillSlot {x : Int32} (hS : StAt h s S) (hz : sBz S) : Spec l D cA N0 m_X8_fillSlot 2 0 0 [.ref s, .int x] h (fun r h' => r = some (.int (s_fill S x).1) ∧ StAt h' s (s_fill S x).2 ∧ Frm h h' s 40) := by
  refine Spec.of (L := [some (.ref s), some (.int x)]) (by decide) rfl (Nat.le_of_ble_eq_true rfl) ?_
  have qs := hS.o
  have qA := hS.2.1
  have qB := sl_at hS x
  have qL := sl_le s x
  refine R_iload_n1 (pc := 0) dX8_fillSlot_0 ?_
  refine R_if_lt (pc := 1) 9 dX8_fillSlot_1 (by decide) (fun c_1 => ?_) (fun c_1 => ?_)
  · skip
    have d_1 := Int32.not_le.mpr c_1
    refine R_iconst (pc := 9) (v := (-1)) dX8_fillSlot_9 (by decide) ?_
    refine R_iret (pc := 10) rfl rfl dX8_fillSlot_10 ?_
    exact ⟨by simp only [s_fill, c_1, d_1, reduceCtorEq, if_true, if_false, reduceIte, and_true, true_and, and_false, false_and, and_self, or_true, true_or, or_false, false_or, or_self, not_true, not_false_iff], by simp only [s_fill, c_1, d_1, reduceCtorEq, if_true, if_false, reduceIte, and_true, true_and, and_false, false_and, and_self, or_true, true_or, or_false, false_or, or_self, not_true, not_false_iff]; exact hS, Frm.rf _ _ _⟩
  · skip
    have d_1 := Int32.not_lt.mp c_1
    refine R_iload_n1 (pc := 4) dX8_fillSlot_4 ?_
    refine R_iconst (pc := 5) (v := 1) dX8_fillSlot_5 (by decide) ?_
    refine R_icmp_le (pc := 6) 11 dX8_fillSlot_6 (by decide) (fun c_6 => ?_) (fun c_6 => ?_)
    · skip
      have d_6 := Int32.not_lt.mpr c_6
      refine R_aload_n0 (pc := 11) dX8_fillSlot_11 ?_
      refine R_iload_n1 (pc := 12) dX8_fillSlot_12 ?_
      refine R_callV1 (pc := 13) (T := TX8) cal_X8_slotOf kw315 kw317 kw3 dX8_fillSlot_13 (c_X8_slotOf (by assumption)) (by decide) (Nat.le_of_ble_eq_true rfl) (ci := 6) rfl (by assumption) ?_
      rintro _ _ ⟨rfl, rfl⟩
      refine R_aload_n0 (pc := 16) dX8_fillSlot_16 ?_
      refine G_X8_12 (pc := 17) dX8_fillSlot_17 (by assumption) ?_
      refine R_callV1 (pc := 20) (T := TX1) cal_X1_copyFrom kw262 kw263 kw264 dX8_fillSlot_20 (c_X1_copyFrom qB qA (by omega) hz.1) (by decide) (Nat.le_of_ble_eq_true rfl) (ci := 1) rfl qB.o0 ?_
      rintro _ h61 ⟨rfl, e61⟩
      have qs : h61.2 s = some (.inr (6, ob6 (sA s) (fun _ => S.2.2.2))) := by rw [e61, gput_out _ _ _ (by unfold sA at qL; omega)]; exact qs
      have qA : GmAt h61 (sA s 0) S.1 := gAt_keep qA (fun q z1 z2 => by rw [e61]; exact gput_out _ _ _ (by omega))
      refine R_aload_n0 (pc := 23) dX8_fillSlot_23 ?_
      refine R_dup (pc := 24) dX8_fillSlot_24 rfl ?_
      refine G_X8_28 (pc := 25) dX8_fillSlot_25 (by assumption) ?_
      refine R_iconst (pc := 28) (v := 1) dX8_fillSlot_28 (by decide) ?_
      refine R_iload_n1 (pc := 29) dX8_fillSlot_29 ?_
      refine R_ishl (pc := 30) dX8_fillSlot_30 ?_
      refine R_ior (pc := 31) dX8_fillSlot_31 ?_
      refine P_X8_28 (pc := 32) dX8_fillSlot_32 (by assumption) (fun h1 e1 f1 => ?_)
      have qA : GmAt h1 (sA s 0) S.1 := gAt_keep qA (fun q z1 z2 => by rw [e1]; exact hput_ne _ _ (by unfold sA at z1; omega))
      have qg := qA.o0
      refine R_aload_n0 (pc := 35) dX8_fillSlot_35 ?_
      refine G_X8_12 (pc := 36) dX8_fillSlot_36 (by assumption) ?_
      refine R_callV0 (pc := 39) (T := TX1) cal_X1_turn kw319 kw320 kw321 dX8_fillSlot_39 (c_X1_turn (g := sA s 0) (G := S.1) qA) (by decide) (Nat.le_of_ble_eq_true rfl) (ci := 1) rfl qA.o0 ?_
      rintro _ _ ⟨rfl, rfl⟩
      refine R_iret (pc := 42) rfl rfl dX8_fillSlot_42 ?_
      exact fill_leaf hS d_1 c_6 e61 e1
    · skip
      have d_6 := Int32.not_le.mp c_6
      refine R_iconst (pc := 9) (v := (-1)) dX8_fillSlot_9 (by decide) ?_
      refine R_iret (pc := 10) rfl rfl dX8_fillSlot_10 ?_
      exact ⟨by simp only [s_fill, c_1, d_1, c_6, d_6, reduceCtorEq, if_true, if_false, reduceIte, and_true, true_and, and_false, false_and, and_self, or_true, true_or, or_false, false_or, or_self, not_true, not_false_iff], by simp only [s_fill, c_1, d_1, c_6, d_6, reduceCtorEq, if_true, if_false, reduceIte, and_true, true_and, and_false, false_and, and_self, or_true, true_or, or_false, false_or, or_self, not_true, not_false_iff]; exact hS, Frm.rf _ _ _⟩

set_option maxHeartbeats 4000000 in
set_option maxRecDepth 100000 in
theorem c_X8_resumeSlot {x : Int32} (hS : StAt h s S) (hz : sBz S) : Spec l D cA N0 m_X8_resumeSlot 2 0 0 [.ref s, .int x] h (fun r h' => r = some (.int (s_resume S x).1) ∧ StAt h' s (s_resume S x).2 ∧ Frm h h' s 40) := by
  refine Spec.of (L := [some (.ref s), some (.int x)]) (by decide) rfl (Nat.le_of_ble_eq_true rfl) ?_
  have qs := hS.o
  have qA := hS.2.1
  have qB := sl_at hS x
  have qL := sl_le s x
  have hzx : bz (sv S x) := by unfold sv; split; exact hz.2.1; exact hz.2.2
  refine R_iload_n1 (pc := 0) dX8_resumeSlot_0 ?_
  refine R_if_lt (pc := 1) 9 dX8_resumeSlot_1 (by decide) (fun c_1 => ?_) (fun c_1 => ?_)
  · skip
    have d_1 := Int32.not_le.mpr c_1
    refine R_iconst (pc := 9) (v := (-1)) dX8_resumeSlot_9 (by decide) ?_
    refine R_iret (pc := 10) rfl rfl dX8_resumeSlot_10 ?_
    exact ⟨by simp only [s_resume, c_1, d_1, reduceCtorEq, if_true, if_false, reduceIte, and_true, true_and, and_false, false_and, and_self, or_true, true_or, or_false, false_or, or_self, not_true, not_false_iff], by simp only [s_resume, c_1, d_1, reduceCtorEq, if_true, if_false, reduceIte, and_true, true_and, and_false, false_and, and_self, or_true, true_or, or_false, false_or, or_self, not_true, not_false_iff]; exact hS, Frm.rf _ _ _⟩
  · skip
    have d_1 := Int32.not_lt.mp c_1
    refine R_iload_n1 (pc := 4) dX8_resumeSlot_4 ?_
    refine R_iconst (pc := 5) (v := 1) dX8_resumeSlot_5 (by decide) ?_
    refine R_icmp_le (pc := 6) 11 dX8_resumeSlot_6 (by decide) (fun c_6 => ?_) (fun c_6 => ?_)
    · skip
      have d_6 := Int32.not_lt.mpr c_6
      refine R_aload_n0 (pc := 11) dX8_resumeSlot_11 ?_
      refine G_X8_28 (pc := 12) dX8_resumeSlot_12 (by assumption) ?_
      refine R_iload_n1 (pc := 15) dX8_resumeSlot_15 ?_
      refine R_ishr (pc := 16) dX8_resumeSlot_16 ?_
      refine R_iconst (pc := 17) (v := 1) dX8_resumeSlot_17 (by decide) ?_
      refine R_iand (pc := 18) dX8_resumeSlot_18 ?_
      refine R_if_ne (pc := 19) 25 dX8_resumeSlot_19 (by decide) (fun c_19 => ?_) (fun c_19 => ?_)
      · skip
        refine R_aload_n0 (pc := 25) dX8_resumeSlot_25 ?_
        refine G_X8_12 (pc := 26) dX8_resumeSlot_26 (by assumption) ?_
        refine R_aload_n0 (pc := 29) dX8_resumeSlot_29 ?_
        refine R_iload_n1 (pc := 30) dX8_resumeSlot_30 ?_
        refine R_callV1 (pc := 31) (T := TX8) cal_X8_slotOf kw315 kw317 kw3 dX8_resumeSlot_31 (c_X8_slotOf (by assumption)) (by decide) (Nat.le_of_ble_eq_true rfl) (ci := 6) rfl (by assumption) ?_
        rintro _ _ ⟨rfl, rfl⟩
        refine R_callV1 (pc := 34) (T := TX1) cal_X1_copyFrom kw262 kw263 kw264 dX8_resumeSlot_34 (c_X1_copyFrom qA qB (by omega) hzx) (by decide) (Nat.le_of_ble_eq_true rfl) (ci := 1) rfl qA.o0 ?_
        rintro _ h61 ⟨rfl, e61⟩
        have qs : h61.2 s = some (.inr (6, ob6 (sA s) (fun _ => S.2.2.2))) := by rw [e61, gput_out _ _ _ (by unfold sA; omega)]; exact qs
        have qC : GmAt h61 (sA s 0) (sv S x) := by rw [e61]; exact gput_at _ _ _
        have qg := qC.o0
        refine R_aload_n0 (pc := 37) dX8_resumeSlot_37 ?_
        refine G_X8_12 (pc := 38) dX8_resumeSlot_38 (by assumption) ?_
        refine R_callV0 (pc := 41) (T := TX1) cal_X1_turn kw319 kw320 kw321 dX8_resumeSlot_41 (c_X1_turn (g := sA s 0) (G := sv S x) qC) (by decide) (Nat.le_of_ble_eq_true rfl) (ci := 1) rfl qC.o0 ?_
        rintro _ _ ⟨rfl, rfl⟩
        refine R_iret (pc := 44) rfl rfl dX8_resumeSlot_44 ?_
        have q := st_gput hS e61
        exact ⟨by simp only [s_resume, c_1, d_1, c_6, d_6, c_19, reduceCtorEq, if_true, if_false, reduceIte, and_true, true_and, and_false, false_and, and_self, or_true, true_or, or_false, false_or, or_self, not_true, not_false_iff], by simp only [s_resume, c_1, d_1, c_6, d_6, c_19, reduceCtorEq, if_true, if_false, reduceIte, and_true, true_and, and_false, false_and, and_self, or_true, true_or, or_false, false_or, or_self, not_true, not_false_iff]; exact q.1, q.2⟩
      · skip
        refine R_bipush (pc := 22) (v := (-2)) dX8_resumeSlot_22 (by decide) ?_
        refine R_iret (pc := 24) rfl rfl dX8_resumeSlot_24 ?_
        exact ⟨by simp only [s_resume, c_1, d_1, c_6, d_6, c_19, reduceCtorEq, if_true, if_false, reduceIte, and_true, true_and, and_false, false_and, and_self, or_true, true_or, or_false, false_or, or_self, not_true, not_false_iff], by simp only [s_resume, c_1, d_1, c_6, d_6, c_19, reduceCtorEq, if_true, if_false, reduceIte, and_true, true_and, and_false, false_and, and_self, or_true, true_or, or_false, false_or, or_self, not_true, not_false_iff]; exact hS, Frm.rf _ _ _⟩
    · skip
      have d_6 := Int32.not_le.mp c_6
      refine R_iconst (pc := 9) (v := (-1)) dX8_resumeSlot_9 (by decide) ?_
      refine R_iret (pc := 10) rfl rfl dX8_resumeSlot_10 ?_
      exact ⟨by simp only [s_resume, c_1, d_1, c_6, d_6, reduceCtorEq, if_true, if_false, reduceIte, and_true, true_and, and_false, false_and, and_self, or_true, true_or, or_false, false_or, or_self, not_true, not_false_iff], by simp only [s_resume, c_1, d_1, c_6, d_6, reduceCtorEq, if_true, if_false, reduceIte, and_true, true_and, and_false, false_and, and_self, or_true, true_or, or_false, false_or, or_self, not_true, not_false_iff]; exact hS, Frm.rf _ _ _⟩

end LV11b
