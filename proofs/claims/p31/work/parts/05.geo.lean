/-! GEOMETRY AND PATHS of the class -/
def sub2 : List (Option Value) → List (Option Value) → Prop
  | [], [] => True
  | none :: r, _ :: s => True ∧ sub2 r s
  | some v :: r, o :: s => o = some v ∧ sub2 r s
  | _, _ => False
theorem sub2_at : ∀ (L2 L : List (Option Value)), sub2 L2 L → ∀ (i : Nat) (v : Value), L2[i]? = some (some v) → L[i]? = some (some v)
  | [], [], _, i, v, h => by simp at h
  | none :: r, o :: s, h, i, v, hi => by
    cases i with
    | zero => simp at hi
    | succ i => simp only [List.getElem?_cons_succ] at hi ⊢; exact sub2_at r s h.2 i v hi
  | some w :: r, o :: s, h, i, v, hi => by
    cases i with
    | zero => simp only [List.getElem?_cons_zero] at hi ⊢; rw [h.1]; exact hi
    | succ i => simp only [List.getElem?_cons_succ] at hi ⊢; exact sub2_at r s h.2 i v hi
theorem R_weak {l : Launch} {D : va_G} {cA : Nat → ClassId} {N0 : Nat} {own : String} {cc : ByteArray} {nL : Nat} {ret : Option FieldType} {nm : String} {R : Room} {X : State → Prop} {F : List Frame → Array Value → State → State → Prop} {h : AH} {k n pc : Nat} {L L2 : List (Option Value)} {st : List Value} (hs : sub2 L2 L) (r : Run l D cA N0 own cc nL ret nm R X F h k n pc L2 st) : Run l D cA N0 own cc nL ret nm R X F h k n pc L st := by
  intro p e s m args below meth c H locs ls Cc hR hS hL
  refine r p e s m args below meth c H locs ls Cc hR hS ⟨hL.1, hL.2.1, fun q hq => hL.2.2 q ?_⟩
  have h1 := (enc_mem L2 0 q.1 q.2).mp hq
  rw [Nat.sub_zero] at h1
  exact (enc_mem L 0 q.1 q.2).mpr ⟨Nat.zero_le _, by rw [Nat.sub_zero]; exact sub2_at L2 L hs _ _ h1.2⟩
theorem nI_s (i : Nat) : nI i + Int32.ofInt 1 = nI (i + 1) := nI_1 i
theorem i_nI {x : Int32} {n : Nat} (h0 : 0 ≤ x) (h1 : x < nI n) (hn : n < 2 ^ 31) : ∃ i, i < n ∧ x = nI i := by
  obtain ⟨j, hj, rfl⟩ := nI_of (x := x) (Int32.not_lt.mpr h0)
  exact ⟨j, (nI_ltI hj hn).mp h1, rfl⟩
section LV5
variable {l : Launch} {D : va_G} {cA : Nat → ClassId} {N0 : Nat} {h : AH}
def k_rs (d : Int32) : Int32 := if d = 1 ∨ d = 2 then 1 else if d = 4 ∨ d = 5 then -1 else 0
def k_cs (d : Int32) : Int32 := if d = 0 ∨ d = 5 then 1 else if d = 2 ∨ d = 3 then -1 else 0
def k_next (x d : Int32) : Int32 := if (0 ≤ x ∧ x < 81) ∧ (0 ≤ d ∧ d < 6) then (if 0 ≤ x / 9 + k_rs d ∧ x / 9 + k_rs d < 9 ∧ 0 ≤ x - x / 9 * 9 + k_cs d ∧ x - x / 9 * 9 + k_cs d < 9 then (x / 9 + k_rs d) * 9 + (x - x / 9 * 9 + k_cs d) else -9) else -9
set_option maxHeartbeats 4000000 in
set_option maxRecDepth 100000 in
theorem c_X2_rowStep {x : Int32} : Spec l D cA N0 m_X2_rowStep 0 0 0 [.int x] h (fun r h' => r = some (.int (k_rs x)) ∧ h' = h) := by
  refine Spec.of (L := [some (.int x)]) (by decide) rfl (Nat.le_of_ble_eq_true rfl) ?_
  refine R_iload_n0 (pc := 0) dX2_rowStep_0 ?_
  refine R_iconst (pc := 1) (v := 1) dX2_rowStep_1 (by decide) ?_
  refine R_icmp_eq (pc := 2) 10 dX2_rowStep_2 (by decide) (fun c_2 => ?_) (fun c_2 => ?_)
  · skip
    refine R_iconst (pc := 10) (v := 1) dX2_rowStep_10 (by decide) ?_
    refine R_iret (pc := 11) rfl rfl dX2_rowStep_11 ?_
    exact ⟨by simp only [k_rs, c_2, if_true, if_false, reduceIte, and_true, true_and, and_false, false_and, and_self, or_true, true_or, or_false, false_or, or_self, not_true, not_false_iff] <;> rfl, rfl⟩
  · skip
    refine R_iload_n0 (pc := 5) dX2_rowStep_5 ?_
    refine R_iconst (pc := 6) (v := 2) dX2_rowStep_6 (by decide) ?_
    refine R_icmp_ne (pc := 7) 12 dX2_rowStep_7 (by decide) (fun c_7 => ?_) (fun c_7 => ?_)
    · skip
      refine R_iload_n0 (pc := 12) dX2_rowStep_12 ?_
      refine R_iconst (pc := 13) (v := 4) dX2_rowStep_13 (by decide) ?_
      refine R_icmp_eq (pc := 14) 22 dX2_rowStep_14 (by decide) (fun c_14 => ?_) (fun c_14 => ?_)
      · skip
        refine R_iconst (pc := 22) (v := (-1)) dX2_rowStep_22 (by decide) ?_
        refine R_goto (pc := 23) 27 dX2_rowStep_23 (by decide) ?_
        refine R_iret (pc := 27) rfl rfl dX2_rowStep_27 ?_
        exact ⟨by simp only [k_rs, c_2, c_7, c_14, if_true, if_false, reduceIte, and_true, true_and, and_false, false_and, and_self, or_true, true_or, or_false, false_or, or_self, not_true, not_false_iff] <;> rfl, rfl⟩
      · skip
        refine R_iload_n0 (pc := 17) dX2_rowStep_17 ?_
        refine R_iconst (pc := 18) (v := 5) dX2_rowStep_18 (by decide) ?_
        refine R_icmp_ne (pc := 19) 26 dX2_rowStep_19 (by decide) (fun c_19 => ?_) (fun c_19 => ?_)
        · skip
          refine R_iconst (pc := 26) (v := 0) dX2_rowStep_26 (by decide) ?_
          refine R_iret (pc := 27) rfl rfl dX2_rowStep_27 ?_
          exact ⟨by simp only [k_rs, c_2, c_7, c_14, c_19, if_true, if_false, reduceIte, and_true, true_and, and_false, false_and, and_self, or_true, true_or, or_false, false_or, or_self, not_true, not_false_iff] <;> rfl, rfl⟩
        · skip
          refine R_iconst (pc := 22) (v := (-1)) dX2_rowStep_22 (by decide) ?_
          refine R_goto (pc := 23) 27 dX2_rowStep_23 (by decide) ?_
          refine R_iret (pc := 27) rfl rfl dX2_rowStep_27 ?_
          exact ⟨by simp only [k_rs, c_2, c_7, c_14, c_19, if_true, if_false, reduceIte, and_true, true_and, and_false, false_and, and_self, or_true, true_or, or_false, false_or, or_self, not_true, not_false_iff] <;> rfl, rfl⟩
    · skip
      refine R_iconst (pc := 10) (v := 1) dX2_rowStep_10 (by decide) ?_
      refine R_iret (pc := 11) rfl rfl dX2_rowStep_11 ?_
      exact ⟨by simp only [k_rs, c_2, c_7, if_true, if_false, reduceIte, and_true, true_and, and_false, false_and, and_self, or_true, true_or, or_false, false_or, or_self, not_true, not_false_iff] <;> rfl, rfl⟩

set_option maxHeartbeats 4000000 in
set_option maxRecDepth 100000 in
theorem c_X2_columnStep {x : Int32} : Spec l D cA N0 m_X2_columnStep 0 0 0 [.int x] h (fun r h' => r = some (.int (k_cs x)) ∧ h' = h) := by
  refine Spec.of (L := [some (.int x)]) (by decide) rfl (Nat.le_of_ble_eq_true rfl) ?_
  refine R_iload_n0 (pc := 0) dX2_columnStep_0 ?_
  refine R_if_eq (pc := 1) 9 dX2_columnStep_1 (by decide) (fun c_1 => ?_) (fun c_1 => ?_)
  · skip
    refine R_iconst (pc := 9) (v := 1) dX2_columnStep_9 (by decide) ?_
    refine R_iret (pc := 10) rfl rfl dX2_columnStep_10 ?_
    exact ⟨by simp only [k_cs, c_1, if_true, if_false, reduceIte, and_true, true_and, and_false, false_and, and_self, or_true, true_or, or_false, false_or, or_self, not_true, not_false_iff] <;> rfl, rfl⟩
  · skip
    refine R_iload_n0 (pc := 4) dX2_columnStep_4 ?_
    refine R_iconst (pc := 5) (v := 5) dX2_columnStep_5 (by decide) ?_
    refine R_icmp_ne (pc := 6) 11 dX2_columnStep_6 (by decide) (fun c_6 => ?_) (fun c_6 => ?_)
    · skip
      refine R_iload_n0 (pc := 11) dX2_columnStep_11 ?_
      refine R_iconst (pc := 12) (v := 2) dX2_columnStep_12 (by decide) ?_
      refine R_icmp_eq (pc := 13) 21 dX2_columnStep_13 (by decide) (fun c_13 => ?_) (fun c_13 => ?_)
      · skip
        refine R_iconst (pc := 21) (v := (-1)) dX2_columnStep_21 (by decide) ?_
        refine R_goto (pc := 22) 26 dX2_columnStep_22 (by decide) ?_
        refine R_iret (pc := 26) rfl rfl dX2_columnStep_26 ?_
        exact ⟨by simp only [k_cs, c_1, c_6, c_13, if_true, if_false, reduceIte, and_true, true_and, and_false, false_and, and_self, or_true, true_or, or_false, false_or, or_self, not_true, not_false_iff] <;> rfl, rfl⟩
      · skip
        refine R_iload_n0 (pc := 16) dX2_columnStep_16 ?_
        refine R_iconst (pc := 17) (v := 3) dX2_columnStep_17 (by decide) ?_
        refine R_icmp_ne (pc := 18) 25 dX2_columnStep_18 (by decide) (fun c_18 => ?_) (fun c_18 => ?_)
        · skip
          refine R_iconst (pc := 25) (v := 0) dX2_columnStep_25 (by decide) ?_
          refine R_iret (pc := 26) rfl rfl dX2_columnStep_26 ?_
          exact ⟨by simp only [k_cs, c_1, c_6, c_13, c_18, if_true, if_false, reduceIte, and_true, true_and, and_false, false_and, and_self, or_true, true_or, or_false, false_or, or_self, not_true, not_false_iff] <;> rfl, rfl⟩
        · skip
          refine R_iconst (pc := 21) (v := (-1)) dX2_columnStep_21 (by decide) ?_
          refine R_goto (pc := 22) 26 dX2_columnStep_22 (by decide) ?_
          refine R_iret (pc := 26) rfl rfl dX2_columnStep_26 ?_
          exact ⟨by simp only [k_cs, c_1, c_6, c_13, c_18, if_true, if_false, reduceIte, and_true, true_and, and_false, false_and, and_self, or_true, true_or, or_false, false_or, or_self, not_true, not_false_iff] <;> rfl, rfl⟩
    · skip
      refine R_iconst (pc := 9) (v := 1) dX2_columnStep_9 (by decide) ?_
      refine R_iret (pc := 10) rfl rfl dX2_columnStep_10 ?_
      exact ⟨by simp only [k_cs, c_1, c_6, if_true, if_false, reduceIte, and_true, true_and, and_false, false_and, and_self, or_true, true_or, or_false, false_or, or_self, not_true, not_false_iff] <;> rfl, rfl⟩

set_option maxHeartbeats 4000000 in
set_option maxRecDepth 100000 in
theorem c_X2_next {x y : Int32} : Spec l D cA N0 m_X2_next 1 0 0 [.int x, .int y] h (fun r h' => r = some (.int (k_next x y)) ∧ h' = h) := by
  refine Spec.of (L := [some (.int x), some (.int y), none, none, none]) (by decide) rfl (Nat.le_of_ble_eq_true rfl) ?_
  refine R_iload_n0 (pc := 0) dX2_next_0 ?_
  refine R_callS1 (pc := 1) cal_X2_exists kw512 kw405 dX2_next_1 (c_X2_exists) (by decide) (Nat.le_of_ble_eq_true rfl) ?_
  rintro _ _ ⟨rfl, rfl⟩
  refine R_ifb_eq (pc := 4) 14 dX2_next_4 (by decide) (fun c_4 => ?_) (fun c_4 => ?_)
  · skip
    refine R_bipush (pc := 14) (v := (-9)) dX2_next_14 (by decide) ?_
    refine R_iret (pc := 16) rfl rfl dX2_next_16 ?_
    exact ⟨by simp only [k_next, c_4, if_true, if_false, reduceIte, and_true, true_and, and_false, false_and, and_self, or_true, true_or, or_false, false_or, or_self, not_true, not_false_iff] <;> rfl, rfl⟩
  · skip
    refine R_iload_n1 (pc := 7) dX2_next_7 ?_
    refine R_callS1 (pc := 8) cal_X2_isDirection kw513 kw434 dX2_next_8 (c_X2_isDirection) (by decide) (Nat.le_of_ble_eq_true rfl) ?_
    rintro _ _ ⟨rfl, rfl⟩
    refine R_ifb_ne (pc := 11) 17 dX2_next_11 (by decide) (fun c_11 => ?_) (fun c_11 => ?_)
    · skip
      refine R_iload_n0 (pc := 17) dX2_next_17 ?_
      refine R_bipush (pc := 18) (v := 9) dX2_next_18 (by decide) ?_
      refine R_idiv (pc := 20) dX2_next_20 (by decide) ?_
      refine R_iload_n1 (pc := 21) dX2_next_21 ?_
      refine R_callS1 (pc := 22) cal_X2_rowStep kw514 kw515 dX2_next_22 (c_X2_rowStep) (by decide) (Nat.le_of_ble_eq_true rfl) ?_
      rintro _ _ ⟨rfl, rfl⟩
      refine R_iadd (pc := 25) dX2_next_25 ?_
      refine R_istore_n2 (pc := 26) dX2_next_26 rfl (by decide) ?_
      refine R_iload_n0 (pc := 27) dX2_next_27 ?_
      refine R_bipush (pc := 28) (v := 9) dX2_next_28 (by decide) ?_
      refine R_irem (pc := 30) dX2_next_30 (by decide) ?_
      refine R_iload_n1 (pc := 31) dX2_next_31 ?_
      refine R_callS1 (pc := 32) cal_X2_columnStep kw517 kw518 dX2_next_32 (c_X2_columnStep) (by decide) (Nat.le_of_ble_eq_true rfl) ?_
      rintro _ _ ⟨rfl, rfl⟩
      refine R_iadd (pc := 35) dX2_next_35 ?_
      refine R_istore_n3 (pc := 36) dX2_next_36 rfl (by decide) ?_
      refine R_iload_n2 (pc := 37) dX2_next_37 ?_
      refine R_if_lt (pc := 38) 61 dX2_next_38 (by decide) (fun c_38 => ?_) (fun c_38 => ?_)
      · skip
        have d_38 := Int32.not_le.mpr c_38
        refine R_iconst (pc := 61) (v := 0) dX2_next_61 (by decide) ?_
        refine R_istore4 (pc := 62) dX2_next_62 rfl (by decide) ?_
        refine R_iload4 (pc := 64) dX2_next_64 ?_
        refine R_if_eq (pc := 66) 78 dX2_next_66 (by decide) (fun _ => ?_) (fun c0 => False.elim (by revert c0; decide))
        refine R_bipush (pc := 78) (v := (-9)) dX2_next_78 (by decide) ?_
        refine R_iret (pc := 80) rfl rfl dX2_next_80 ?_
        exact ⟨by simp only [k_next, c_4, c_11, c_38, d_38, if_true, if_false, reduceIte, and_true, true_and, and_false, false_and, and_self, or_true, true_or, or_false, false_or, or_self, not_true, not_false_iff] <;> rfl, rfl⟩
      · skip
        have d_38 := Int32.not_lt.mp c_38
        refine R_iload_n2 (pc := 41) dX2_next_41 ?_
        refine R_bipush (pc := 42) (v := 9) dX2_next_42 (by decide) ?_
        refine R_icmp_ge (pc := 44) 61 dX2_next_44 (by decide) (fun c_44 => ?_) (fun c_44 => ?_)
        · skip
          have d_44 := Int32.not_lt.mpr c_44
          refine R_iconst (pc := 61) (v := 0) dX2_next_61 (by decide) ?_
          refine R_istore4 (pc := 62) dX2_next_62 rfl (by decide) ?_
          refine R_iload4 (pc := 64) dX2_next_64 ?_
          refine R_if_eq (pc := 66) 78 dX2_next_66 (by decide) (fun _ => ?_) (fun c0 => False.elim (by revert c0; decide))
          refine R_bipush (pc := 78) (v := (-9)) dX2_next_78 (by decide) ?_
          refine R_iret (pc := 80) rfl rfl dX2_next_80 ?_
          exact ⟨by simp only [k_next, c_4, c_11, c_38, d_38, c_44, d_44, if_true, if_false, reduceIte, and_true, true_and, and_false, false_and, and_self, or_true, true_or, or_false, false_or, or_self, not_true, not_false_iff] <;> rfl, rfl⟩
        · skip
          have d_44 := Int32.not_le.mp c_44
          refine R_iload_n3 (pc := 47) dX2_next_47 ?_
          refine R_if_lt (pc := 48) 61 dX2_next_48 (by decide) (fun c_48 => ?_) (fun c_48 => ?_)
          · skip
            have d_48 := Int32.not_le.mpr c_48
            refine R_iconst (pc := 61) (v := 0) dX2_next_61 (by decide) ?_
            refine R_istore4 (pc := 62) dX2_next_62 rfl (by decide) ?_
            refine R_iload4 (pc := 64) dX2_next_64 ?_
            refine R_if_eq (pc := 66) 78 dX2_next_66 (by decide) (fun _ => ?_) (fun c0 => False.elim (by revert c0; decide))
            refine R_bipush (pc := 78) (v := (-9)) dX2_next_78 (by decide) ?_
            refine R_iret (pc := 80) rfl rfl dX2_next_80 ?_
            exact ⟨by simp only [k_next, c_4, c_11, c_38, d_38, c_44, d_44, c_48, d_48, if_true, if_false, reduceIte, and_true, true_and, and_false, false_and, and_self, or_true, true_or, or_false, false_or, or_self, not_true, not_false_iff] <;> rfl, rfl⟩
          · skip
            have d_48 := Int32.not_lt.mp c_48
            refine R_iload_n3 (pc := 51) dX2_next_51 ?_
            refine R_bipush (pc := 52) (v := 9) dX2_next_52 (by decide) ?_
            refine R_icmp_ge (pc := 54) 61 dX2_next_54 (by decide) (fun c_54 => ?_) (fun c_54 => ?_)
            · skip
              have d_54 := Int32.not_lt.mpr c_54
              refine R_iconst (pc := 61) (v := 0) dX2_next_61 (by decide) ?_
              refine R_istore4 (pc := 62) dX2_next_62 rfl (by decide) ?_
              refine R_iload4 (pc := 64) dX2_next_64 ?_
              refine R_if_eq (pc := 66) 78 dX2_next_66 (by decide) (fun _ => ?_) (fun c0 => False.elim (by revert c0; decide))
              refine R_bipush (pc := 78) (v := (-9)) dX2_next_78 (by decide) ?_
              refine R_iret (pc := 80) rfl rfl dX2_next_80 ?_
              exact ⟨by simp only [k_next, c_4, c_11, c_38, d_38, c_44, d_44, c_48, d_48, c_54, d_54, if_true, if_false, reduceIte, and_true, true_and, and_false, false_and, and_self, or_true, true_or, or_false, false_or, or_self, not_true, not_false_iff] <;> rfl, rfl⟩
            · skip
              have d_54 := Int32.not_le.mp c_54
              refine R_iconst (pc := 57) (v := 1) dX2_next_57 (by decide) ?_
              refine R_goto (pc := 58) 62 dX2_next_58 (by decide) ?_
              refine R_istore4 (pc := 62) dX2_next_62 rfl (by decide) ?_
              refine R_iload4 (pc := 64) dX2_next_64 ?_
              refine R_if_eq (pc := 66) 78 dX2_next_66 (by decide) (fun c0 => False.elim (by revert c0; decide)) (fun _ => ?_)
              refine R_iload_n2 (pc := 69) dX2_next_69 ?_
              refine R_bipush (pc := 70) (v := 9) dX2_next_70 (by decide) ?_
              refine R_imul (pc := 72) dX2_next_72 ?_
              refine R_iload_n3 (pc := 73) dX2_next_73 ?_
              refine R_iadd (pc := 74) dX2_next_74 ?_
              refine R_goto (pc := 75) 80 dX2_next_75 (by decide) ?_
              refine R_iret (pc := 80) rfl rfl dX2_next_80 ?_
              exact ⟨by simp only [k_next, c_4, c_11, c_38, d_38, c_44, d_44, c_48, d_48, c_54, d_54, if_true, if_false, reduceIte, and_true, true_and, and_false, false_and, and_self, or_true, true_or, or_false, false_or, or_self, not_true, not_false_iff] <;> rfl, rfl⟩
    · skip
      refine R_bipush (pc := 14) (v := (-9)) dX2_next_14 (by decide) ?_
      refine R_iret (pc := 16) rfl rfl dX2_next_16 ?_
      exact ⟨by simp only [k_next, c_4, c_11, if_true, if_false, reduceIte, and_true, true_and, and_false, false_and, and_self, or_true, true_or, or_false, false_or, or_self, not_true, not_false_iff] <;> rfl, rfl⟩

def k_nbr (x y : Int32) (i : Nat) : Bool := (List.range i).any fun d => decide (k_next x (nI d) = y)
theorem k_nbr_s (x y : Int32) (i : Nat) : k_nbr x y (i + 1) = (k_nbr x y i || decide (k_next x (nI i) = y)) := by
  simp [k_nbr, List.range_succ, List.any_append]
theorem k_nbr_up {x y : Int32} {i : Nat} (h : k_next x (nI i) = y) (hi : i < 6) : k_nbr x y 6 = true := by
  simp only [k_nbr, List.any_eq_true, List.mem_range, decide_eq_true_eq]
  exact ⟨i, hi, h⟩
set_option maxHeartbeats 4000000 in
set_option maxRecDepth 100000 in
theorem L_X2_areNeighbors {x y : Int32} (hxy : 0 ≤ y ∧ y < 81) : ∀ (n i : Nat), i + n = 6 → k_nbr x y i = false → RunM l D cA N0 m_X2_areNeighbors 2 0 0 (fun r h' => r = some (.int (bI (k_nbr x y 6 = true))) ∧ h' = h) h 0 0 2 [some (.int x), some (.int y), some (.int (nI i))] [] := by
  intro n
  induction n with
  | zero =>
    intro i hin hinv 
    have hie : i = 6 := by omega
    subst hie
    refine R_iload_n2 (pc := 2) dX2_areNeighbors_2 ?_
    refine R_bipush (pc := 3) (v := 6) dX2_areNeighbors_3 (by decide) ?_
    refine R_icmp_ge (pc := 5) 32 dX2_areNeighbors_5 (by decide) (fun c_5 => ?_) (fun c_5 => absurd (by decide) c_5)
    refine R_iconst (pc := 32) (v := 0) dX2_areNeighbors_32 (by decide) ?_
    refine R_iret (pc := 33) rfl rfl dX2_areNeighbors_33 ?_
    exact ⟨by rw [bI_f (by rw [hinv]; decide)], rfl⟩
  | succ n ih =>
    intro i hin hinv 
    have hlt : i < 6 := by omega
    refine R_iload_n2 (pc := 2) dX2_areNeighbors_2 ?_
    refine R_bipush (pc := 3) (v := 6) dX2_areNeighbors_3 (by decide) ?_
    refine R_icmp_ge (pc := 5) 32 dX2_areNeighbors_5 (by decide) (fun c_5 => absurd c_5 (nI_ge hlt (by decide))) (fun c_5 => ?_)
    refine R_iload_n1 (pc := 8) dX2_areNeighbors_8 ?_
    refine R_callS1 (pc := 9) cal_X2_exists kw512 kw405 dX2_areNeighbors_9 c_X2_exists (by decide) (Nat.le_of_ble_eq_true rfl) ?_
    rintro _ _ ⟨rfl, rfl⟩
    refine R_ifb_eq (pc := 12) 26 dX2_areNeighbors_12 (by decide) (fun c_12 => ?_) (fun c_12 => ?_)
    · skip
      exact absurd hxy c_12
    · skip
      refine R_iload_n0 (pc := 15) dX2_areNeighbors_15 ?_
      refine R_iload_n2 (pc := 16) dX2_areNeighbors_16 ?_
      refine R_callS2 (pc := 17) cal_X2_next kw655 kw510 dX2_areNeighbors_17 c_X2_next (by decide) (Nat.le_of_ble_eq_true rfl) ?_
      rintro _ _ ⟨rfl, rfl⟩
      refine R_iload_n1 (pc := 20) dX2_areNeighbors_20 ?_
      refine R_icmp_ne (pc := 21) 26 dX2_areNeighbors_21 (by decide) (fun c_21 => ?_) (fun c_21 => ?_)
      · skip
        refine R_iinc2 (pc := 26) dX2_areNeighbors_26 rfl (by decide) ?_
        refine R_goto (pc := 29) 2 dX2_areNeighbors_29 (by decide) ?_
        rw [nI_s]
        exact ih (i + 1) (by omega) (by rw [k_nbr_s, hinv, Bool.false_or, decide_eq_false (by assumption)])
      · skip
        refine R_iconst (pc := 24) (v := 1) dX2_areNeighbors_24 (by decide) ?_
        refine R_iret (pc := 25) rfl rfl dX2_areNeighbors_25 ?_
        exact ⟨by rw [bI_t (k_nbr_up c_21 (by omega))], rfl⟩

set_option maxHeartbeats 4000000 in
set_option maxRecDepth 100000 in
theorem c_X2_areNeighbors {x y : Int32} (hxy : 0 ≤ y ∧ y < 81) : Spec l D cA N0 m_X2_areNeighbors 2 0 0 [.int x, .int y] h (fun r h' => r = some (.int (bI (k_nbr x y 6 = true))) ∧ h' = h) := by
  refine Spec.of (L := [some (.int x), some (.int y), none]) (by decide) rfl (Nat.le_of_ble_eq_true rfl) ?_
  refine R_iconst (pc := 0) (v := 0) dX2_areNeighbors_0 (by decide) ?_
  refine R_istore_n2 (pc := 1) dX2_areNeighbors_1 rfl (by decide) ?_
  exact L_X2_areNeighbors hxy 6 0 rfl rfl

def k_turn (x s : Int32) : Int32 := if s = 2 then (if x = 5 then 0 else x + 1) else if s = 3 then (if x = 0 then 5 else x - 1) else x
set_option maxHeartbeats 4000000 in
set_option maxRecDepth 100000 in
theorem c_X5_turned {x y : Int32} : Spec l D cA N0 m_X5_turned 0 0 0 [.int x, .int y] h (fun r h' => r = some (.int (k_turn x y)) ∧ h' = h) := by
  refine Spec.of (L := [some (.int x), some (.int y)]) (by decide) rfl (Nat.le_of_ble_eq_true rfl) ?_
  refine R_iload_n1 (pc := 0) dX5_turned_0 ?_
  refine R_iconst (pc := 1) (v := 2) dX5_turned_1 (by decide) ?_
  refine R_icmp_ne (pc := 2) 18 dX5_turned_2 (by decide) (fun c_2 => ?_) (fun c_2 => ?_)
  · skip
    refine R_iload_n1 (pc := 18) dX5_turned_18 ?_
    refine R_iconst (pc := 19) (v := 3) dX5_turned_19 (by decide) ?_
    refine R_icmp_ne (pc := 20) 35 dX5_turned_20 (by decide) (fun c_20 => ?_) (fun c_20 => ?_)
    · skip
      refine R_iload_n0 (pc := 35) dX5_turned_35 ?_
      refine R_iret (pc := 36) rfl rfl dX5_turned_36 ?_
      exact ⟨by simp only [k_turn, c_2, c_20, if_true, if_false, reduceIte, and_true, true_and, and_false, false_and, and_self, or_true, true_or, or_false, false_or, or_self, not_true, not_false_iff] <;> rfl, rfl⟩
    · skip
      refine R_iload_n0 (pc := 23) dX5_turned_23 ?_
      refine R_if_ne (pc := 24) 31 dX5_turned_24 (by decide) (fun c_24 => ?_) (fun c_24 => ?_)
      · skip
        refine R_iload_n0 (pc := 31) dX5_turned_31 ?_
        refine R_iconst (pc := 32) (v := 1) dX5_turned_32 (by decide) ?_
        refine R_isub (pc := 33) dX5_turned_33 ?_
        refine R_iret (pc := 34) rfl rfl dX5_turned_34 ?_
        exact ⟨by simp only [k_turn, c_2, c_20, c_24, if_true, if_false, reduceIte, and_true, true_and, and_false, false_and, and_self, or_true, true_or, or_false, false_or, or_self, not_true, not_false_iff] <;> rfl, rfl⟩
      · skip
        refine R_iconst (pc := 27) (v := 5) dX5_turned_27 (by decide) ?_
        refine R_goto (pc := 28) 34 dX5_turned_28 (by decide) ?_
        refine R_iret (pc := 34) rfl rfl dX5_turned_34 ?_
        exact ⟨by simp only [k_turn, c_2, c_20, c_24, if_true, if_false, reduceIte, and_true, true_and, and_false, false_and, and_self, or_true, true_or, or_false, false_or, or_self, not_true, not_false_iff] <;> rfl, rfl⟩
  · skip
    refine R_iload_n0 (pc := 5) dX5_turned_5 ?_
    refine R_iconst (pc := 6) (v := 5) dX5_turned_6 (by decide) ?_
    refine R_icmp_ne (pc := 7) 14 dX5_turned_7 (by decide) (fun c_7 => ?_) (fun c_7 => ?_)
    · skip
      refine R_iload_n0 (pc := 14) dX5_turned_14 ?_
      refine R_iconst (pc := 15) (v := 1) dX5_turned_15 (by decide) ?_
      refine R_iadd (pc := 16) dX5_turned_16 ?_
      refine R_iret (pc := 17) rfl rfl dX5_turned_17 ?_
      exact ⟨by simp only [k_turn, c_2, c_7, if_true, if_false, reduceIte, and_true, true_and, and_false, false_and, and_self, or_true, true_or, or_false, false_or, or_self, not_true, not_false_iff] <;> rfl, rfl⟩
    · skip
      refine R_iconst (pc := 10) (v := 0) dX5_turned_10 (by decide) ?_
      refine R_goto (pc := 11) 17 dX5_turned_11 (by decide) ?_
      refine R_iret (pc := 17) rfl rfl dX5_turned_17 ?_
      exact ⟨by simp only [k_turn, c_2, c_7, if_true, if_false, reduceIte, and_true, true_and, and_false, false_and, and_self, or_true, true_or, or_false, false_or, or_self, not_true, not_false_iff] <;> rfl, rfl⟩

/-- how many decimal digits; of 0 none -/
def nd (p : Nat) : Nat := if h : p = 0 then 0 else nd (p / 10) + 1
termination_by p
decreasing_by exact Nat.div_lt_self (Nat.pos_of_ne_zero h) (by decide)
theorem nd_0 : nd 0 = 0 := by rw [nd]; rfl
theorem nd_s {p : Nat} (h : p ≠ 0) : nd p = nd (p / 10) + 1 := by rw [nd, dif_neg h]
theorem nd_le : ∀ (k p : Nat), p < 10 ^ k → nd p ≤ k
  | 0, p, h => by
    have : p = 0 := by omega
    rw [this, nd_0]
    exact Nat.le_refl _
  | k + 1, p, h => by
    by_cases hp : p = 0
    · rw [hp, nd_0]; omega
    · rw [nd_s hp]
      have := nd_le k (p / 10) (by rw [Nat.pow_succ] at h; omega)
      omega
/-- the power of ten at the first digit -/
def un (p : Nat) : Nat := 10 ^ nd (p / 10)
/-- all digits are 1, 2 or 3 -/
def dg (p : Nat) : Bool := if h : p = 0 then true else (decide (1 ≤ p % 10) && decide (p % 10 ≤ 3)) && dg (p / 10)
termination_by p
decreasing_by exact Nat.div_lt_self (Nat.pos_of_ne_zero h) (by decide)
theorem dg_0 : dg 0 = true := by rw [dg]; rfl
theorem dg_s {p : Nat} (h : p ≠ 0) : dg p = ((decide (1 ≤ p % 10) && decide (p % 10 ≤ 3)) && dg (p / 10)) := by rw [dg, dif_neg h]
theorem i10 : (10 : Int32) = nI 10 := rfl
theorem nI_d10 {p : Nat} (h : p < 2 ^ 31) : nI p / 10 = nI (p / 10) := pk_div h (by decide) (by decide)
theorem nI_r10 {p : Nat} (h : p < 2 ^ 31) : nI p - nI p / 10 * 10 = nI (p % 10) := pk_rem h (by decide) (by decide)
theorem nI_le0 {p : Nat} (h : p < 2 ^ 31) : nI p ≤ 0 ↔ p = 0 := by
  rw [← nI_0, nI_leI h (by decide)]; omega
set_option maxHeartbeats 4000000 in
set_option maxRecDepth 100000 in
theorem L_X5_stepsOf : ∀ (r q : Nat) (x : Int32), r < 2 ^ 31 → RunM l D cA N0 m_X5_stepsOf 0 0 0 (fun a h' => a = some (.int (nI (q + nd r))) ∧ h' = h) h 0 0 4 [some (.int x), some (.int (nI q)), some (.int (nI r))] [] := by
  intro r
  induction r using Nat.strongRecOn with
  | _ r ih =>
    intro q x hr
    refine R_iload_n2 (pc := 4) dX5_stepsOf_4 ?_
    refine R_if_le (pc := 5) 19 dX5_stepsOf_5 (by decide) (fun c_5 => ?_) (fun c_5 => ?_)
    · skip
      have d_5 := Int32.not_lt.mpr c_5
      refine R_iload_n1 (pc := 19) dX5_stepsOf_19 ?_
      refine R_iret (pc := 20) rfl rfl dX5_stepsOf_20 ?_
      exact ⟨by rw [(nI_le0 hr).mp c_5, nd_0, Nat.add_zero], rfl⟩
    · skip
      have d_5 := Int32.not_le.mp c_5
      refine R_iinc1 (pc := 8) dX5_stepsOf_8 rfl (by decide) ?_
      refine R_iload_n2 (pc := 11) dX5_stepsOf_11 ?_
      refine R_bipush (pc := 12) (v := 10) dX5_stepsOf_12 (by decide) ?_
      refine R_idiv (pc := 14) dX5_stepsOf_14 (by decide) ?_
      refine R_istore_n2 (pc := 15) dX5_stepsOf_15 rfl (by decide) ?_
      refine R_goto (pc := 16) 4 dX5_stepsOf_16 (by decide) ?_
      rw [nI_d10 hr, nI_s]
      have hz : r ≠ 0 := fun e => c_5 ((nI_le0 hr).mpr e)
      refine R_post (fun a h1 q1 => ?_) (ih (r / 10) (Nat.div_lt_self (Nat.pos_of_ne_zero hz) (by decide)) (q + 1) x (by omega))
      rw [nd_s hz, ← Nat.add_assoc, Nat.add_right_comm]
      exact q1

set_option maxHeartbeats 4000000 in
set_option maxRecDepth 100000 in
theorem c_X5_stepsOf {p : Nat} (hp : p < 2 ^ 31) : Spec l D cA N0 m_X5_stepsOf 0 0 0 [.int (nI p)] h (fun r h' => r = some (.int (nI (nd p))) ∧ h' = h) := by
  refine Spec.of (L := [some (.int (nI p)), none, none]) (by decide) rfl (Nat.le_of_ble_eq_true rfl) ?_
  refine R_iconst (pc := 0) (v := 0) dX5_stepsOf_0 (by decide) ?_
  refine R_istore_n1 (pc := 1) dX5_stepsOf_1 rfl (by decide) ?_
  refine R_iload_n0 (pc := 2) dX5_stepsOf_2 ?_
  refine R_istore_n2 (pc := 3) dX5_stepsOf_3 rfl (by decide) ?_
  refine R_post (fun a h1 q1 => ?_) (L_X5_stepsOf p 0 (nI p) hp)
  rw [Nat.zero_add] at q1
  exact q1

set_option maxHeartbeats 4000000 in
set_option maxRecDepth 100000 in
theorem L_X5_unitOf : ∀ (r u : Nat) (x : Int32), r < 2 ^ 31 → RunM l D cA N0 m_X5_unitOf 0 0 0 (fun a h' => a = some (.int (nI (u * 10 ^ nd r))) ∧ h' = h) h 0 0 7 [some (.int x), some (.int (nI u)), some (.int (nI r))] [] := by
  intro r
  induction r using Nat.strongRecOn with
  | _ r ih =>
    intro u x hr
    refine R_iload_n2 (pc := 7) dX5_unitOf_7 ?_
    refine R_if_le (pc := 8) 24 dX5_unitOf_8 (by decide) (fun c_8 => ?_) (fun c_8 => ?_)
    · skip
      have d_8 := Int32.not_lt.mpr c_8
      refine R_iload_n1 (pc := 24) dX5_unitOf_24 ?_
      refine R_iret (pc := 25) rfl rfl dX5_unitOf_25 ?_
      exact ⟨by rw [(nI_le0 hr).mp c_8, nd_0, Nat.pow_zero, Nat.mul_one], rfl⟩
    · skip
      have d_8 := Int32.not_le.mp c_8
      refine R_iload_n1 (pc := 11) dX5_unitOf_11 ?_
      refine R_bipush (pc := 12) (v := 10) dX5_unitOf_12 (by decide) ?_
      refine R_imul (pc := 14) dX5_unitOf_14 ?_
      refine R_istore_n1 (pc := 15) dX5_unitOf_15 rfl (by decide) ?_
      refine R_iload_n2 (pc := 16) dX5_unitOf_16 ?_
      refine R_bipush (pc := 17) (v := 10) dX5_unitOf_17 (by decide) ?_
      refine R_idiv (pc := 19) dX5_unitOf_19 (by decide) ?_
      refine R_istore_n2 (pc := 20) dX5_unitOf_20 rfl (by decide) ?_
      refine R_goto (pc := 21) 7 dX5_unitOf_21 (by decide) ?_
      rw [nI_d10 hr, i10, pk_mul]
      have hz : r ≠ 0 := fun e => c_8 ((nI_le0 hr).mpr e)
      refine R_post (fun a h1 q1 => ?_) (ih (r / 10) (Nat.div_lt_self (Nat.pos_of_ne_zero hz) (by decide)) (u * 10) x (by omega))
      rw [nd_s hz, Nat.pow_succ, Nat.mul_comm (10 ^ _) 10, ← Nat.mul_assoc]
      exact q1

set_option maxHeartbeats 4000000 in
set_option maxRecDepth 100000 in
theorem c_X5_unitOf {p : Nat} (hp : p < 2 ^ 31) : Spec l D cA N0 m_X5_unitOf 0 0 0 [.int (nI p)] h (fun r h' => r = some (.int (nI (un p))) ∧ h' = h) := by
  refine Spec.of (L := [some (.int (nI p)), none, none]) (by decide) rfl (Nat.le_of_ble_eq_true rfl) ?_
  refine R_iconst (pc := 0) (v := 1) dX5_unitOf_0 (by decide) ?_
  refine R_istore_n1 (pc := 1) dX5_unitOf_1 rfl (by decide) ?_
  refine R_iload_n0 (pc := 2) dX5_unitOf_2 ?_
  refine R_bipush (pc := 3) (v := 10) dX5_unitOf_3 (by decide) ?_
  refine R_idiv (pc := 5) dX5_unitOf_5 (by decide) ?_
  refine R_istore_n2 (pc := 6) dX5_unitOf_6 rfl (by decide) ?_
  rw [nI_d10 hp]
  refine R_post (fun a h1 q1 => ?_) (L_X5_unitOf (p / 10) 1 (nI p) (by omega))
  rw [Nat.one_mul] at q1
  exact q1

set_option maxHeartbeats 4000000 in
set_option maxRecDepth 100000 in
theorem L_X5_isPath : ∀ (r : Nat) (x : Int32), r < 2 ^ 31 → RunM l D cA N0 m_X5_isPath 0 0 0 (fun a h' => a = some (.int (bI (dg r = true))) ∧ h' = h) h 0 0 14 [some (.int x), some (.int (nI r)), none] [] := by
  intro r
  induction r using Nat.strongRecOn with
  | _ r ih =>
    intro x hr
    refine R_iload_n1 (pc := 14) dX5_isPath_14 ?_
    refine R_if_le (pc := 15) 43 dX5_isPath_15 (by decide) (fun c_15 => ?_) (fun c_15 => ?_)
    · skip
      have d_15 := Int32.not_lt.mpr c_15
      refine R_iconst (pc := 43) (v := 1) dX5_isPath_43 (by decide) ?_
      refine R_iret (pc := 44) rfl rfl dX5_isPath_44 ?_
      exact ⟨by rw [(nI_le0 hr).mp c_15, dg_0]; rfl, rfl⟩
    · skip
      have d_15 := Int32.not_le.mp c_15
      have hz : r ≠ 0 := fun e => c_15 ((nI_le0 hr).mpr e)
      have hm : r % 10 < 10 := Nat.mod_lt _ (by decide)
      have hq := nI_r10 hr
      refine R_iload_n1 (pc := 18) dX5_isPath_18 ?_
      refine R_bipush (pc := 19) (v := 10) dX5_isPath_19 (by decide) ?_
      refine R_irem (pc := 21) dX5_isPath_21 (by decide) ?_
      refine R_istore_n2 (pc := 22) dX5_isPath_22 rfl (by decide) ?_
      refine R_iload_n2 (pc := 23) dX5_isPath_23 ?_
      refine R_iconst (pc := 24) (v := 1) dX5_isPath_24 (by decide) ?_
      refine R_icmp_lt (pc := 25) 33 dX5_isPath_25 (by decide) (fun c_25 => ?_) (fun c_25 => ?_)
      · skip
        have d_25 := Int32.not_le.mpr c_25
        rw [hq] at c_25
        rw [show (1 : Int32) = nI 1 from rfl, nI_ltI (by omega) (by decide)] at c_25
        refine R_iconst (pc := 33) (v := 0) dX5_isPath_33 (by decide) ?_
        refine R_iret (pc := 34) rfl rfl dX5_isPath_34 ?_
        exact ⟨by rw [bI_f (by rw [dg_s hz]; simp; omega)], rfl⟩
      · skip
        have d_25 := Int32.not_lt.mp c_25
        rw [hq] at c_25
        rw [show (1 : Int32) = nI 1 from rfl, nI_ltI (by omega) (by decide)] at c_25
        refine R_iload_n2 (pc := 28) dX5_isPath_28 ?_
        refine R_iconst (pc := 29) (v := 3) dX5_isPath_29 (by decide) ?_
        refine R_icmp_le (pc := 30) 35 dX5_isPath_30 (by decide) (fun c_30 => ?_) (fun c_30 => ?_)
        · skip
          have d_30 := Int32.not_lt.mpr c_30
          rw [hq] at c_30
          rw [show (3 : Int32) = nI 3 from rfl, nI_leI (by omega) (by decide)] at c_30
          refine R_iload_n1 (pc := 35) dX5_isPath_35 ?_
          refine R_bipush (pc := 36) (v := 10) dX5_isPath_36 (by decide) ?_
          refine R_idiv (pc := 38) dX5_isPath_38 (by decide) ?_
          refine R_istore_n1 (pc := 39) dX5_isPath_39 rfl (by decide) ?_
          refine R_goto (pc := 40) 14 dX5_isPath_40 (by decide) ?_
          rw [nI_d10 hr]
          refine R_weak (L2 := [some (.int x), some (.int (nI (r / 10))), none]) (by repeat (first | exact trivial | refine ⟨rfl, ?_⟩ | refine ⟨trivial, ?_⟩)) (R_post (fun a h1 q1 => ?_) (ih (r / 10) (Nat.div_lt_self (Nat.pos_of_ne_zero hz) (by decide)) x (by omega)))
          rw [dg_s hz, decide_eq_true (show 1 ≤ r % 10 by omega), decide_eq_true c_30]
          exact q1
        · skip
          have d_30 := Int32.not_le.mp c_30
          rw [hq] at c_30
          rw [show (3 : Int32) = nI 3 from rfl, nI_leI (by omega) (by decide)] at c_30
          refine R_iconst (pc := 33) (v := 0) dX5_isPath_33 (by decide) ?_
          refine R_iret (pc := 34) rfl rfl dX5_isPath_34 ?_
          exact ⟨by rw [bI_f (by rw [dg_s hz]; simp; omega)], rfl⟩

def k_pok (x : Int32) : Bool := decide ((0 < x ∧ x ≤ 999999) ∧ dg x.toNatClampNeg = true)
set_option maxHeartbeats 4000000 in
set_option maxRecDepth 100000 in
theorem c_X5_isPath {x : Int32} : Spec l D cA N0 m_X5_isPath 0 0 0 [.int x] h (fun r h' => r = some (.int (bI (k_pok x = true))) ∧ h' = h) := by
  refine Spec.of (L := [some (.int x), none, none]) (by decide) rfl (Nat.le_of_ble_eq_true rfl) ?_
  refine R_iload_n0 (pc := 0) dX5_isPath_0 ?_
  refine R_if_le (pc := 1) 10 dX5_isPath_1 (by decide) (fun c_1 => ?_) (fun c_1 => ?_)
  · skip
    have d_1 := Int32.not_lt.mpr c_1
    refine R_iconst (pc := 10) (v := 0) dX5_isPath_10 (by decide) ?_
    refine R_iret (pc := 11) rfl rfl dX5_isPath_11 ?_
    exact ⟨by rw [bI_f (fun q => by have q := of_decide_eq_true q; exact d_1 q.1.1)], rfl⟩
  · skip
    have d_1 := Int32.not_le.mp c_1
    refine R_iload_n0 (pc := 4) dX5_isPath_4 ?_
    refine R_ldc (pc := 5) dX5_isPath_5 kw609 ?_
    refine R_icmp_le (pc := 7) 12 dX5_isPath_7 (by decide) (fun c_7 => ?_) (fun c_7 => ?_)
    · skip
      have d_7 := Int32.not_lt.mpr c_7
      refine R_iload_n0 (pc := 12) dX5_isPath_12 ?_
      refine R_istore_n1 (pc := 13) dX5_isPath_13 rfl (by decide) ?_
      obtain ⟨p, hp, rfl⟩ := nI_of2 (M := 999999) (n := 999999) (by decide) (fun z => c_1 (Int32.le_of_lt z)) c_7
      refine R_post (fun a h1 q1 => ⟨?_, q1.2⟩) (L_X5_isPath p (nI p) (by omega))
      rw [q1.1]
      by_cases z : dg p = true
      · rw [bI_t z, bI_t (show k_pok (nI p) = true from decide_eq_true ⟨⟨d_1, c_7⟩, by rw [nI_clamp (by omega)]; exact z⟩)]
      · rw [bI_f z, bI_f (fun q => z (by have q := of_decide_eq_true q; rw [nI_clamp (by omega)] at q; exact q.2))]
    · skip
      have d_7 := Int32.not_le.mp c_7
      refine R_iconst (pc := 10) (v := 0) dX5_isPath_10 (by decide) ?_
      refine R_iret (pc := 11) rfl rfl dX5_isPath_11 ?_
      exact ⟨by rw [bI_f (fun q => by have q := of_decide_eq_true q; exact c_7 q.1.2)], rfl⟩

end LV5
