/-! THE REFERENCE: its reading methods -/
section LV23
variable {l : Launch} {D : va_G} {cA : Nat → ClassId} {N0 : Nat} {h : AH} {u : Nat} {M : Mm}
set_option maxHeartbeats 4000000 in
set_option maxRecDepth 100000 in
theorem c_X10_next {x d : Int32} : Spec l D cA N0 m_X10_next 1 0 0 [.int x, .int d] h (fun r h' => r = some (.int (z_next x d)) ∧ h' = h) := by
  refine Spec.of (L := [some (.int x), some (.int d), none, none, none, none]) (by decide) rfl (Nat.le_of_ble_eq_true rfl) ?_
  refine R_iload_n1 (pc := 0) dX10_next_0 ?_
  refine R_iconst (pc := 1) (v := 1) dX10_next_1 (by decide) ?_
  refine R_icmp_eq (pc := 2) 10 dX10_next_2 (by decide) (fun c_2 => ?_) (fun c_2 => ?_)
  · skip
    refine R_iconst (pc := 10) (v := 1) dX10_next_10 (by decide) ?_
    refine R_goto (pc := 11) 24 dX10_next_11 (by decide) ?_
    refine R_istore_n2 (pc := 24) dX10_next_24 rfl (by decide) ?_
    refine R_iload_n1 (pc := 25) dX10_next_25 ?_
    refine R_if_eq (pc := 26) 34 dX10_next_26 (by decide) (fun c_26 => ?_) (fun c_26 => ?_)
    · skip
      refine R_iconst (pc := 34) (v := 1) dX10_next_34 (by decide) ?_
      refine R_goto (pc := 35) 53 dX10_next_35 (by decide) ?_
      refine R_istore_n3 (pc := 53) dX10_next_53 rfl (by decide) ?_
      refine R_iload_n0 (pc := 54) dX10_next_54 ?_
      refine R_bipush (pc := 55) (v := 9) dX10_next_55 (by decide) ?_
      refine R_idiv (pc := 57) dX10_next_57 (by decide) ?_
      refine R_iload_n2 (pc := 58) dX10_next_58 ?_
      refine R_iadd (pc := 59) dX10_next_59 ?_
      refine R_istore4 (pc := 60) dX10_next_60 rfl (by decide) ?_
      refine R_iload_n0 (pc := 62) dX10_next_62 ?_
      refine R_bipush (pc := 63) (v := 9) dX10_next_63 (by decide) ?_
      refine R_irem (pc := 65) dX10_next_65 (by decide) ?_
      refine R_iload_n3 (pc := 66) dX10_next_66 ?_
      refine R_iadd (pc := 67) dX10_next_67 ?_
      refine R_istore5 (pc := 68) dX10_next_68 rfl (by decide) ?_
      refine R_iload4 (pc := 70) dX10_next_70 ?_
      refine R_i2l (pc := 72) dX10_next_72 ?_
      refine R_lconst (pc := 73) (v := 0) dX10_next_73 (by decide) ?_
      refine R_ldc2 (pc := 74) dX10_next_74 kw923 ?_
      refine R_callS3 (pc := 77) cal_X10_in kw892 kw893 dX10_next_77 (c_X10_in rfl (lo := 0) (by decide) (hi := 8) (by decide)) (by decide) (Nat.le_of_ble_eq_true rfl) ?_
      rintro _ _ ⟨rfl, rfl⟩
      refine R_ifb_eq (pc := 80) 107 dX10_next_80 (by decide) (fun c_80 => ?_) (fun c_80 => ?_)
      · skip
        refine R_iconst (pc := 107) (v := (-1)) dX10_next_107 (by decide) ?_
        refine R_iret (pc := 108) rfl rfl dX10_next_108 ?_
        have hr : z_rs d = 1 := by rw [z_rs, if_pos (Or.inl c_2)]
        have hc : z_cs d = 1 := by rw [z_cs, if_pos (Or.inl c_26)]
        exact ⟨by rw [z_next, hr, hc, if_neg (fun z => c_80 z.1)], rfl⟩
      · skip
        refine R_iload5 (pc := 83) dX10_next_83 ?_
        refine R_i2l (pc := 85) dX10_next_85 ?_
        refine R_lconst (pc := 86) (v := 0) dX10_next_86 (by decide) ?_
        refine R_ldc2 (pc := 87) dX10_next_87 kw923 ?_
        refine R_callS3 (pc := 90) cal_X10_in kw892 kw893 dX10_next_90 (c_X10_in rfl (lo := 0) (by decide) (hi := 8) (by decide)) (by decide) (Nat.le_of_ble_eq_true rfl) ?_
        rintro _ _ ⟨rfl, rfl⟩
        refine R_ifb_eq (pc := 93) 107 dX10_next_93 (by decide) (fun c_93 => ?_) (fun c_93 => ?_)
        · skip
          refine R_iconst (pc := 107) (v := (-1)) dX10_next_107 (by decide) ?_
          refine R_iret (pc := 108) rfl rfl dX10_next_108 ?_
          have hr : z_rs d = 1 := by rw [z_rs, if_pos (Or.inl c_2)]
          have hc : z_cs d = 1 := by rw [z_cs, if_pos (Or.inl c_26)]
          exact ⟨by rw [z_next, hr, hc, if_neg (fun z => c_93 z.2)], rfl⟩
        · skip
          refine R_bipush (pc := 96) (v := 9) dX10_next_96 (by decide) ?_
          refine R_iload4 (pc := 98) dX10_next_98 ?_
          refine R_imul (pc := 100) dX10_next_100 ?_
          refine R_iload5 (pc := 101) dX10_next_101 ?_
          refine R_iadd (pc := 103) dX10_next_103 ?_
          refine R_goto (pc := 104) 108 dX10_next_104 (by decide) ?_
          refine R_iret (pc := 108) rfl rfl dX10_next_108 ?_
          have hr : z_rs d = 1 := by rw [z_rs, if_pos (Or.inl c_2)]
          have hc : z_cs d = 1 := by rw [z_cs, if_pos (Or.inl c_26)]
          exact ⟨by rw [z_next, hr, hc, if_pos ⟨c_80, c_93⟩], rfl⟩
    · skip
      refine R_iload_n1 (pc := 29) dX10_next_29 ?_
      refine R_iconst (pc := 30) (v := 5) dX10_next_30 (by decide) ?_
      refine R_icmp_ne (pc := 31) 38 dX10_next_31 (by decide) (fun c_31 => ?_) (fun c_31 => ?_)
      · skip
        refine R_iload_n1 (pc := 38) dX10_next_38 ?_
        refine R_iconst (pc := 39) (v := 2) dX10_next_39 (by decide) ?_
        refine R_icmp_eq (pc := 40) 48 dX10_next_40 (by decide) (fun c_40 => ?_) (fun c_40 => ?_)
        · skip
          refine R_iconst (pc := 48) (v := (-1)) dX10_next_48 (by decide) ?_
          refine R_goto (pc := 49) 53 dX10_next_49 (by decide) ?_
          refine R_istore_n3 (pc := 53) dX10_next_53 rfl (by decide) ?_
          refine R_iload_n0 (pc := 54) dX10_next_54 ?_
          refine R_bipush (pc := 55) (v := 9) dX10_next_55 (by decide) ?_
          refine R_idiv (pc := 57) dX10_next_57 (by decide) ?_
          refine R_iload_n2 (pc := 58) dX10_next_58 ?_
          refine R_iadd (pc := 59) dX10_next_59 ?_
          refine R_istore4 (pc := 60) dX10_next_60 rfl (by decide) ?_
          refine R_iload_n0 (pc := 62) dX10_next_62 ?_
          refine R_bipush (pc := 63) (v := 9) dX10_next_63 (by decide) ?_
          refine R_irem (pc := 65) dX10_next_65 (by decide) ?_
          refine R_iload_n3 (pc := 66) dX10_next_66 ?_
          refine R_iadd (pc := 67) dX10_next_67 ?_
          refine R_istore5 (pc := 68) dX10_next_68 rfl (by decide) ?_
          refine R_iload4 (pc := 70) dX10_next_70 ?_
          refine R_i2l (pc := 72) dX10_next_72 ?_
          refine R_lconst (pc := 73) (v := 0) dX10_next_73 (by decide) ?_
          refine R_ldc2 (pc := 74) dX10_next_74 kw923 ?_
          refine R_callS3 (pc := 77) cal_X10_in kw892 kw893 dX10_next_77 (c_X10_in rfl (lo := 0) (by decide) (hi := 8) (by decide)) (by decide) (Nat.le_of_ble_eq_true rfl) ?_
          rintro _ _ ⟨rfl, rfl⟩
          refine R_ifb_eq (pc := 80) 107 dX10_next_80 (by decide) (fun c_80 => ?_) (fun c_80 => ?_)
          · skip
            refine R_iconst (pc := 107) (v := (-1)) dX10_next_107 (by decide) ?_
            refine R_iret (pc := 108) rfl rfl dX10_next_108 ?_
            have hr : z_rs d = 1 := by rw [z_rs, if_pos (Or.inl c_2)]
            have hc : z_cs d = (-1) := by rw [z_cs, if_neg (fun z => z.elim c_26 c_31), if_pos (Or.inl c_40)]
            exact ⟨by rw [z_next, hr, hc, if_neg (fun z => c_80 z.1)], rfl⟩
          · skip
            refine R_iload5 (pc := 83) dX10_next_83 ?_
            refine R_i2l (pc := 85) dX10_next_85 ?_
            refine R_lconst (pc := 86) (v := 0) dX10_next_86 (by decide) ?_
            refine R_ldc2 (pc := 87) dX10_next_87 kw923 ?_
            refine R_callS3 (pc := 90) cal_X10_in kw892 kw893 dX10_next_90 (c_X10_in rfl (lo := 0) (by decide) (hi := 8) (by decide)) (by decide) (Nat.le_of_ble_eq_true rfl) ?_
            rintro _ _ ⟨rfl, rfl⟩
            refine R_ifb_eq (pc := 93) 107 dX10_next_93 (by decide) (fun c_93 => ?_) (fun c_93 => ?_)
            · skip
              refine R_iconst (pc := 107) (v := (-1)) dX10_next_107 (by decide) ?_
              refine R_iret (pc := 108) rfl rfl dX10_next_108 ?_
              have hr : z_rs d = 1 := by rw [z_rs, if_pos (Or.inl c_2)]
              have hc : z_cs d = (-1) := by rw [z_cs, if_neg (fun z => z.elim c_26 c_31), if_pos (Or.inl c_40)]
              exact ⟨by rw [z_next, hr, hc, if_neg (fun z => c_93 z.2)], rfl⟩
            · skip
              refine R_bipush (pc := 96) (v := 9) dX10_next_96 (by decide) ?_
              refine R_iload4 (pc := 98) dX10_next_98 ?_
              refine R_imul (pc := 100) dX10_next_100 ?_
              refine R_iload5 (pc := 101) dX10_next_101 ?_
              refine R_iadd (pc := 103) dX10_next_103 ?_
              refine R_goto (pc := 104) 108 dX10_next_104 (by decide) ?_
              refine R_iret (pc := 108) rfl rfl dX10_next_108 ?_
              have hr : z_rs d = 1 := by rw [z_rs, if_pos (Or.inl c_2)]
              have hc : z_cs d = (-1) := by rw [z_cs, if_neg (fun z => z.elim c_26 c_31), if_pos (Or.inl c_40)]
              exact ⟨by rw [z_next, hr, hc, if_pos ⟨c_80, c_93⟩], rfl⟩
        · skip
          refine R_iload_n1 (pc := 43) dX10_next_43 ?_
          refine R_iconst (pc := 44) (v := 3) dX10_next_44 (by decide) ?_
          refine R_icmp_ne (pc := 45) 52 dX10_next_45 (by decide) (fun c_45 => ?_) (fun c_45 => ?_)
          · skip
            refine R_iconst (pc := 52) (v := 0) dX10_next_52 (by decide) ?_
            refine R_istore_n3 (pc := 53) dX10_next_53 rfl (by decide) ?_
            refine R_iload_n0 (pc := 54) dX10_next_54 ?_
            refine R_bipush (pc := 55) (v := 9) dX10_next_55 (by decide) ?_
            refine R_idiv (pc := 57) dX10_next_57 (by decide) ?_
            refine R_iload_n2 (pc := 58) dX10_next_58 ?_
            refine R_iadd (pc := 59) dX10_next_59 ?_
            refine R_istore4 (pc := 60) dX10_next_60 rfl (by decide) ?_
            refine R_iload_n0 (pc := 62) dX10_next_62 ?_
            refine R_bipush (pc := 63) (v := 9) dX10_next_63 (by decide) ?_
            refine R_irem (pc := 65) dX10_next_65 (by decide) ?_
            refine R_iload_n3 (pc := 66) dX10_next_66 ?_
            refine R_iadd (pc := 67) dX10_next_67 ?_
            refine R_istore5 (pc := 68) dX10_next_68 rfl (by decide) ?_
            refine R_iload4 (pc := 70) dX10_next_70 ?_
            refine R_i2l (pc := 72) dX10_next_72 ?_
            refine R_lconst (pc := 73) (v := 0) dX10_next_73 (by decide) ?_
            refine R_ldc2 (pc := 74) dX10_next_74 kw923 ?_
            refine R_callS3 (pc := 77) cal_X10_in kw892 kw893 dX10_next_77 (c_X10_in rfl (lo := 0) (by decide) (hi := 8) (by decide)) (by decide) (Nat.le_of_ble_eq_true rfl) ?_
            rintro _ _ ⟨rfl, rfl⟩
            refine R_ifb_eq (pc := 80) 107 dX10_next_80 (by decide) (fun c_80 => ?_) (fun c_80 => ?_)
            · skip
              refine R_iconst (pc := 107) (v := (-1)) dX10_next_107 (by decide) ?_
              refine R_iret (pc := 108) rfl rfl dX10_next_108 ?_
              have hr : z_rs d = 1 := by rw [z_rs, if_pos (Or.inl c_2)]
              have hc : z_cs d = 0 := by rw [z_cs, if_neg (fun z => z.elim c_26 c_31), if_neg (fun z => z.elim c_40 c_45)]
              exact ⟨by rw [z_next, hr, hc, if_neg (fun z => c_80 z.1)], rfl⟩
            · skip
              refine R_iload5 (pc := 83) dX10_next_83 ?_
              refine R_i2l (pc := 85) dX10_next_85 ?_
              refine R_lconst (pc := 86) (v := 0) dX10_next_86 (by decide) ?_
              refine R_ldc2 (pc := 87) dX10_next_87 kw923 ?_
              refine R_callS3 (pc := 90) cal_X10_in kw892 kw893 dX10_next_90 (c_X10_in rfl (lo := 0) (by decide) (hi := 8) (by decide)) (by decide) (Nat.le_of_ble_eq_true rfl) ?_
              rintro _ _ ⟨rfl, rfl⟩
              refine R_ifb_eq (pc := 93) 107 dX10_next_93 (by decide) (fun c_93 => ?_) (fun c_93 => ?_)
              · skip
                refine R_iconst (pc := 107) (v := (-1)) dX10_next_107 (by decide) ?_
                refine R_iret (pc := 108) rfl rfl dX10_next_108 ?_
                have hr : z_rs d = 1 := by rw [z_rs, if_pos (Or.inl c_2)]
                have hc : z_cs d = 0 := by rw [z_cs, if_neg (fun z => z.elim c_26 c_31), if_neg (fun z => z.elim c_40 c_45)]
                exact ⟨by rw [z_next, hr, hc, if_neg (fun z => c_93 z.2)], rfl⟩
              · skip
                refine R_bipush (pc := 96) (v := 9) dX10_next_96 (by decide) ?_
                refine R_iload4 (pc := 98) dX10_next_98 ?_
                refine R_imul (pc := 100) dX10_next_100 ?_
                refine R_iload5 (pc := 101) dX10_next_101 ?_
                refine R_iadd (pc := 103) dX10_next_103 ?_
                refine R_goto (pc := 104) 108 dX10_next_104 (by decide) ?_
                refine R_iret (pc := 108) rfl rfl dX10_next_108 ?_
                have hr : z_rs d = 1 := by rw [z_rs, if_pos (Or.inl c_2)]
                have hc : z_cs d = 0 := by rw [z_cs, if_neg (fun z => z.elim c_26 c_31), if_neg (fun z => z.elim c_40 c_45)]
                exact ⟨by rw [z_next, hr, hc, if_pos ⟨c_80, c_93⟩], rfl⟩
          · skip
            refine R_iconst (pc := 48) (v := (-1)) dX10_next_48 (by decide) ?_
            refine R_goto (pc := 49) 53 dX10_next_49 (by decide) ?_
            refine R_istore_n3 (pc := 53) dX10_next_53 rfl (by decide) ?_
            refine R_iload_n0 (pc := 54) dX10_next_54 ?_
            refine R_bipush (pc := 55) (v := 9) dX10_next_55 (by decide) ?_
            refine R_idiv (pc := 57) dX10_next_57 (by decide) ?_
            refine R_iload_n2 (pc := 58) dX10_next_58 ?_
            refine R_iadd (pc := 59) dX10_next_59 ?_
            refine R_istore4 (pc := 60) dX10_next_60 rfl (by decide) ?_
            refine R_iload_n0 (pc := 62) dX10_next_62 ?_
            refine R_bipush (pc := 63) (v := 9) dX10_next_63 (by decide) ?_
            refine R_irem (pc := 65) dX10_next_65 (by decide) ?_
            refine R_iload_n3 (pc := 66) dX10_next_66 ?_
            refine R_iadd (pc := 67) dX10_next_67 ?_
            refine R_istore5 (pc := 68) dX10_next_68 rfl (by decide) ?_
            refine R_iload4 (pc := 70) dX10_next_70 ?_
            refine R_i2l (pc := 72) dX10_next_72 ?_
            refine R_lconst (pc := 73) (v := 0) dX10_next_73 (by decide) ?_
            refine R_ldc2 (pc := 74) dX10_next_74 kw923 ?_
            refine R_callS3 (pc := 77) cal_X10_in kw892 kw893 dX10_next_77 (c_X10_in rfl (lo := 0) (by decide) (hi := 8) (by decide)) (by decide) (Nat.le_of_ble_eq_true rfl) ?_
            rintro _ _ ⟨rfl, rfl⟩
            refine R_ifb_eq (pc := 80) 107 dX10_next_80 (by decide) (fun c_80 => ?_) (fun c_80 => ?_)
            · skip
              refine R_iconst (pc := 107) (v := (-1)) dX10_next_107 (by decide) ?_
              refine R_iret (pc := 108) rfl rfl dX10_next_108 ?_
              have hr : z_rs d = 1 := by rw [z_rs, if_pos (Or.inl c_2)]
              have hc : z_cs d = (-1) := by rw [z_cs, if_neg (fun z => z.elim c_26 c_31), if_pos (Or.inr c_45)]
              exact ⟨by rw [z_next, hr, hc, if_neg (fun z => c_80 z.1)], rfl⟩
            · skip
              refine R_iload5 (pc := 83) dX10_next_83 ?_
              refine R_i2l (pc := 85) dX10_next_85 ?_
              refine R_lconst (pc := 86) (v := 0) dX10_next_86 (by decide) ?_
              refine R_ldc2 (pc := 87) dX10_next_87 kw923 ?_
              refine R_callS3 (pc := 90) cal_X10_in kw892 kw893 dX10_next_90 (c_X10_in rfl (lo := 0) (by decide) (hi := 8) (by decide)) (by decide) (Nat.le_of_ble_eq_true rfl) ?_
              rintro _ _ ⟨rfl, rfl⟩
              refine R_ifb_eq (pc := 93) 107 dX10_next_93 (by decide) (fun c_93 => ?_) (fun c_93 => ?_)
              · skip
                refine R_iconst (pc := 107) (v := (-1)) dX10_next_107 (by decide) ?_
                refine R_iret (pc := 108) rfl rfl dX10_next_108 ?_
                have hr : z_rs d = 1 := by rw [z_rs, if_pos (Or.inl c_2)]
                have hc : z_cs d = (-1) := by rw [z_cs, if_neg (fun z => z.elim c_26 c_31), if_pos (Or.inr c_45)]
                exact ⟨by rw [z_next, hr, hc, if_neg (fun z => c_93 z.2)], rfl⟩
              · skip
                refine R_bipush (pc := 96) (v := 9) dX10_next_96 (by decide) ?_
                refine R_iload4 (pc := 98) dX10_next_98 ?_
                refine R_imul (pc := 100) dX10_next_100 ?_
                refine R_iload5 (pc := 101) dX10_next_101 ?_
                refine R_iadd (pc := 103) dX10_next_103 ?_
                refine R_goto (pc := 104) 108 dX10_next_104 (by decide) ?_
                refine R_iret (pc := 108) rfl rfl dX10_next_108 ?_
                have hr : z_rs d = 1 := by rw [z_rs, if_pos (Or.inl c_2)]
                have hc : z_cs d = (-1) := by rw [z_cs, if_neg (fun z => z.elim c_26 c_31), if_pos (Or.inr c_45)]
                exact ⟨by rw [z_next, hr, hc, if_pos ⟨c_80, c_93⟩], rfl⟩
      · skip
        refine R_iconst (pc := 34) (v := 1) dX10_next_34 (by decide) ?_
        refine R_goto (pc := 35) 53 dX10_next_35 (by decide) ?_
        refine R_istore_n3 (pc := 53) dX10_next_53 rfl (by decide) ?_
        refine R_iload_n0 (pc := 54) dX10_next_54 ?_
        refine R_bipush (pc := 55) (v := 9) dX10_next_55 (by decide) ?_
        refine R_idiv (pc := 57) dX10_next_57 (by decide) ?_
        refine R_iload_n2 (pc := 58) dX10_next_58 ?_
        refine R_iadd (pc := 59) dX10_next_59 ?_
        refine R_istore4 (pc := 60) dX10_next_60 rfl (by decide) ?_
        refine R_iload_n0 (pc := 62) dX10_next_62 ?_
        refine R_bipush (pc := 63) (v := 9) dX10_next_63 (by decide) ?_
        refine R_irem (pc := 65) dX10_next_65 (by decide) ?_
        refine R_iload_n3 (pc := 66) dX10_next_66 ?_
        refine R_iadd (pc := 67) dX10_next_67 ?_
        refine R_istore5 (pc := 68) dX10_next_68 rfl (by decide) ?_
        refine R_iload4 (pc := 70) dX10_next_70 ?_
        refine R_i2l (pc := 72) dX10_next_72 ?_
        refine R_lconst (pc := 73) (v := 0) dX10_next_73 (by decide) ?_
        refine R_ldc2 (pc := 74) dX10_next_74 kw923 ?_
        refine R_callS3 (pc := 77) cal_X10_in kw892 kw893 dX10_next_77 (c_X10_in rfl (lo := 0) (by decide) (hi := 8) (by decide)) (by decide) (Nat.le_of_ble_eq_true rfl) ?_
        rintro _ _ ⟨rfl, rfl⟩
        refine R_ifb_eq (pc := 80) 107 dX10_next_80 (by decide) (fun c_80 => ?_) (fun c_80 => ?_)
        · skip
          refine R_iconst (pc := 107) (v := (-1)) dX10_next_107 (by decide) ?_
          refine R_iret (pc := 108) rfl rfl dX10_next_108 ?_
          have hr : z_rs d = 1 := by rw [z_rs, if_pos (Or.inl c_2)]
          have hc : z_cs d = 1 := by rw [z_cs, if_pos (Or.inr c_31)]
          exact ⟨by rw [z_next, hr, hc, if_neg (fun z => c_80 z.1)], rfl⟩
        · skip
          refine R_iload5 (pc := 83) dX10_next_83 ?_
          refine R_i2l (pc := 85) dX10_next_85 ?_
          refine R_lconst (pc := 86) (v := 0) dX10_next_86 (by decide) ?_
          refine R_ldc2 (pc := 87) dX10_next_87 kw923 ?_
          refine R_callS3 (pc := 90) cal_X10_in kw892 kw893 dX10_next_90 (c_X10_in rfl (lo := 0) (by decide) (hi := 8) (by decide)) (by decide) (Nat.le_of_ble_eq_true rfl) ?_
          rintro _ _ ⟨rfl, rfl⟩
          refine R_ifb_eq (pc := 93) 107 dX10_next_93 (by decide) (fun c_93 => ?_) (fun c_93 => ?_)
          · skip
            refine R_iconst (pc := 107) (v := (-1)) dX10_next_107 (by decide) ?_
            refine R_iret (pc := 108) rfl rfl dX10_next_108 ?_
            have hr : z_rs d = 1 := by rw [z_rs, if_pos (Or.inl c_2)]
            have hc : z_cs d = 1 := by rw [z_cs, if_pos (Or.inr c_31)]
            exact ⟨by rw [z_next, hr, hc, if_neg (fun z => c_93 z.2)], rfl⟩
          · skip
            refine R_bipush (pc := 96) (v := 9) dX10_next_96 (by decide) ?_
            refine R_iload4 (pc := 98) dX10_next_98 ?_
            refine R_imul (pc := 100) dX10_next_100 ?_
            refine R_iload5 (pc := 101) dX10_next_101 ?_
            refine R_iadd (pc := 103) dX10_next_103 ?_
            refine R_goto (pc := 104) 108 dX10_next_104 (by decide) ?_
            refine R_iret (pc := 108) rfl rfl dX10_next_108 ?_
            have hr : z_rs d = 1 := by rw [z_rs, if_pos (Or.inl c_2)]
            have hc : z_cs d = 1 := by rw [z_cs, if_pos (Or.inr c_31)]
            exact ⟨by rw [z_next, hr, hc, if_pos ⟨c_80, c_93⟩], rfl⟩
  · skip
    refine R_iload_n1 (pc := 5) dX10_next_5 ?_
    refine R_iconst (pc := 6) (v := 2) dX10_next_6 (by decide) ?_
    refine R_icmp_ne (pc := 7) 14 dX10_next_7 (by decide) (fun c_7 => ?_) (fun c_7 => ?_)
    · skip
      refine R_iload_n1 (pc := 14) dX10_next_14 ?_
      refine R_iconst (pc := 15) (v := 3) dX10_next_15 (by decide) ?_
      refine R_icmp_le (pc := 16) 23 dX10_next_16 (by decide) (fun c_16 => ?_) (fun c_16 => ?_)
      · skip
        have d_16 := Int32.not_lt.mpr c_16
        refine R_iconst (pc := 23) (v := 0) dX10_next_23 (by decide) ?_
        refine R_istore_n2 (pc := 24) dX10_next_24 rfl (by decide) ?_
        refine R_iload_n1 (pc := 25) dX10_next_25 ?_
        refine R_if_eq (pc := 26) 34 dX10_next_26 (by decide) (fun c_26 => ?_) (fun c_26 => ?_)
        · skip
          refine R_iconst (pc := 34) (v := 1) dX10_next_34 (by decide) ?_
          refine R_goto (pc := 35) 53 dX10_next_35 (by decide) ?_
          refine R_istore_n3 (pc := 53) dX10_next_53 rfl (by decide) ?_
          refine R_iload_n0 (pc := 54) dX10_next_54 ?_
          refine R_bipush (pc := 55) (v := 9) dX10_next_55 (by decide) ?_
          refine R_idiv (pc := 57) dX10_next_57 (by decide) ?_
          refine R_iload_n2 (pc := 58) dX10_next_58 ?_
          refine R_iadd (pc := 59) dX10_next_59 ?_
          refine R_istore4 (pc := 60) dX10_next_60 rfl (by decide) ?_
          refine R_iload_n0 (pc := 62) dX10_next_62 ?_
          refine R_bipush (pc := 63) (v := 9) dX10_next_63 (by decide) ?_
          refine R_irem (pc := 65) dX10_next_65 (by decide) ?_
          refine R_iload_n3 (pc := 66) dX10_next_66 ?_
          refine R_iadd (pc := 67) dX10_next_67 ?_
          refine R_istore5 (pc := 68) dX10_next_68 rfl (by decide) ?_
          refine R_iload4 (pc := 70) dX10_next_70 ?_
          refine R_i2l (pc := 72) dX10_next_72 ?_
          refine R_lconst (pc := 73) (v := 0) dX10_next_73 (by decide) ?_
          refine R_ldc2 (pc := 74) dX10_next_74 kw923 ?_
          refine R_callS3 (pc := 77) cal_X10_in kw892 kw893 dX10_next_77 (c_X10_in rfl (lo := 0) (by decide) (hi := 8) (by decide)) (by decide) (Nat.le_of_ble_eq_true rfl) ?_
          rintro _ _ ⟨rfl, rfl⟩
          refine R_ifb_eq (pc := 80) 107 dX10_next_80 (by decide) (fun c_80 => ?_) (fun c_80 => ?_)
          · skip
            refine R_iconst (pc := 107) (v := (-1)) dX10_next_107 (by decide) ?_
            refine R_iret (pc := 108) rfl rfl dX10_next_108 ?_
            have hr : z_rs d = 0 := by rw [z_rs, if_neg (fun z => z.elim c_2 c_7), if_neg (Int32.not_lt.mpr c_16)]
            have hc : z_cs d = 1 := by rw [z_cs, if_pos (Or.inl c_26)]
            exact ⟨by rw [z_next, hr, hc, if_neg (fun z => c_80 z.1)], rfl⟩
          · skip
            refine R_iload5 (pc := 83) dX10_next_83 ?_
            refine R_i2l (pc := 85) dX10_next_85 ?_
            refine R_lconst (pc := 86) (v := 0) dX10_next_86 (by decide) ?_
            refine R_ldc2 (pc := 87) dX10_next_87 kw923 ?_
            refine R_callS3 (pc := 90) cal_X10_in kw892 kw893 dX10_next_90 (c_X10_in rfl (lo := 0) (by decide) (hi := 8) (by decide)) (by decide) (Nat.le_of_ble_eq_true rfl) ?_
            rintro _ _ ⟨rfl, rfl⟩
            refine R_ifb_eq (pc := 93) 107 dX10_next_93 (by decide) (fun c_93 => ?_) (fun c_93 => ?_)
            · skip
              refine R_iconst (pc := 107) (v := (-1)) dX10_next_107 (by decide) ?_
              refine R_iret (pc := 108) rfl rfl dX10_next_108 ?_
              have hr : z_rs d = 0 := by rw [z_rs, if_neg (fun z => z.elim c_2 c_7), if_neg (Int32.not_lt.mpr c_16)]
              have hc : z_cs d = 1 := by rw [z_cs, if_pos (Or.inl c_26)]
              exact ⟨by rw [z_next, hr, hc, if_neg (fun z => c_93 z.2)], rfl⟩
            · skip
              refine R_bipush (pc := 96) (v := 9) dX10_next_96 (by decide) ?_
              refine R_iload4 (pc := 98) dX10_next_98 ?_
              refine R_imul (pc := 100) dX10_next_100 ?_
              refine R_iload5 (pc := 101) dX10_next_101 ?_
              refine R_iadd (pc := 103) dX10_next_103 ?_
              refine R_goto (pc := 104) 108 dX10_next_104 (by decide) ?_
              refine R_iret (pc := 108) rfl rfl dX10_next_108 ?_
              have hr : z_rs d = 0 := by rw [z_rs, if_neg (fun z => z.elim c_2 c_7), if_neg (Int32.not_lt.mpr c_16)]
              have hc : z_cs d = 1 := by rw [z_cs, if_pos (Or.inl c_26)]
              exact ⟨by rw [z_next, hr, hc, if_pos ⟨c_80, c_93⟩], rfl⟩
        · skip
          refine R_iload_n1 (pc := 29) dX10_next_29 ?_
          refine R_iconst (pc := 30) (v := 5) dX10_next_30 (by decide) ?_
          refine R_icmp_ne (pc := 31) 38 dX10_next_31 (by decide) (fun c_31 => ?_) (fun c_31 => ?_)
          · skip
            refine R_iload_n1 (pc := 38) dX10_next_38 ?_
            refine R_iconst (pc := 39) (v := 2) dX10_next_39 (by decide) ?_
            refine R_icmp_eq (pc := 40) 48 dX10_next_40 (by decide) (fun c_40 => ?_) (fun c_40 => ?_)
            · skip
              refine R_iconst (pc := 48) (v := (-1)) dX10_next_48 (by decide) ?_
              refine R_goto (pc := 49) 53 dX10_next_49 (by decide) ?_
              refine R_istore_n3 (pc := 53) dX10_next_53 rfl (by decide) ?_
              refine R_iload_n0 (pc := 54) dX10_next_54 ?_
              refine R_bipush (pc := 55) (v := 9) dX10_next_55 (by decide) ?_
              refine R_idiv (pc := 57) dX10_next_57 (by decide) ?_
              refine R_iload_n2 (pc := 58) dX10_next_58 ?_
              refine R_iadd (pc := 59) dX10_next_59 ?_
              refine R_istore4 (pc := 60) dX10_next_60 rfl (by decide) ?_
              refine R_iload_n0 (pc := 62) dX10_next_62 ?_
              refine R_bipush (pc := 63) (v := 9) dX10_next_63 (by decide) ?_
              refine R_irem (pc := 65) dX10_next_65 (by decide) ?_
              refine R_iload_n3 (pc := 66) dX10_next_66 ?_
              refine R_iadd (pc := 67) dX10_next_67 ?_
              refine R_istore5 (pc := 68) dX10_next_68 rfl (by decide) ?_
              refine R_iload4 (pc := 70) dX10_next_70 ?_
              refine R_i2l (pc := 72) dX10_next_72 ?_
              refine R_lconst (pc := 73) (v := 0) dX10_next_73 (by decide) ?_
              refine R_ldc2 (pc := 74) dX10_next_74 kw923 ?_
              refine R_callS3 (pc := 77) cal_X10_in kw892 kw893 dX10_next_77 (c_X10_in rfl (lo := 0) (by decide) (hi := 8) (by decide)) (by decide) (Nat.le_of_ble_eq_true rfl) ?_
              rintro _ _ ⟨rfl, rfl⟩
              refine R_ifb_eq (pc := 80) 107 dX10_next_80 (by decide) (fun c_80 => ?_) (fun c_80 => ?_)
              · skip
                refine R_iconst (pc := 107) (v := (-1)) dX10_next_107 (by decide) ?_
                refine R_iret (pc := 108) rfl rfl dX10_next_108 ?_
                have hr : z_rs d = 0 := by rw [z_rs, if_neg (fun z => z.elim c_2 c_7), if_neg (Int32.not_lt.mpr c_16)]
                have hc : z_cs d = (-1) := by rw [z_cs, if_neg (fun z => z.elim c_26 c_31), if_pos (Or.inl c_40)]
                exact ⟨by rw [z_next, hr, hc, if_neg (fun z => c_80 z.1)], rfl⟩
              · skip
                refine R_iload5 (pc := 83) dX10_next_83 ?_
                refine R_i2l (pc := 85) dX10_next_85 ?_
                refine R_lconst (pc := 86) (v := 0) dX10_next_86 (by decide) ?_
                refine R_ldc2 (pc := 87) dX10_next_87 kw923 ?_
                refine R_callS3 (pc := 90) cal_X10_in kw892 kw893 dX10_next_90 (c_X10_in rfl (lo := 0) (by decide) (hi := 8) (by decide)) (by decide) (Nat.le_of_ble_eq_true rfl) ?_
                rintro _ _ ⟨rfl, rfl⟩
                refine R_ifb_eq (pc := 93) 107 dX10_next_93 (by decide) (fun c_93 => ?_) (fun c_93 => ?_)
                · skip
                  refine R_iconst (pc := 107) (v := (-1)) dX10_next_107 (by decide) ?_
                  refine R_iret (pc := 108) rfl rfl dX10_next_108 ?_
                  have hr : z_rs d = 0 := by rw [z_rs, if_neg (fun z => z.elim c_2 c_7), if_neg (Int32.not_lt.mpr c_16)]
                  have hc : z_cs d = (-1) := by rw [z_cs, if_neg (fun z => z.elim c_26 c_31), if_pos (Or.inl c_40)]
                  exact ⟨by rw [z_next, hr, hc, if_neg (fun z => c_93 z.2)], rfl⟩
                · skip
                  refine R_bipush (pc := 96) (v := 9) dX10_next_96 (by decide) ?_
                  refine R_iload4 (pc := 98) dX10_next_98 ?_
                  refine R_imul (pc := 100) dX10_next_100 ?_
                  refine R_iload5 (pc := 101) dX10_next_101 ?_
                  refine R_iadd (pc := 103) dX10_next_103 ?_
                  refine R_goto (pc := 104) 108 dX10_next_104 (by decide) ?_
                  refine R_iret (pc := 108) rfl rfl dX10_next_108 ?_
                  have hr : z_rs d = 0 := by rw [z_rs, if_neg (fun z => z.elim c_2 c_7), if_neg (Int32.not_lt.mpr c_16)]
                  have hc : z_cs d = (-1) := by rw [z_cs, if_neg (fun z => z.elim c_26 c_31), if_pos (Or.inl c_40)]
                  exact ⟨by rw [z_next, hr, hc, if_pos ⟨c_80, c_93⟩], rfl⟩
            · skip
              refine R_iload_n1 (pc := 43) dX10_next_43 ?_
              refine R_iconst (pc := 44) (v := 3) dX10_next_44 (by decide) ?_
              refine R_icmp_ne (pc := 45) 52 dX10_next_45 (by decide) (fun c_45 => ?_) (fun c_45 => ?_)
              · skip
                refine R_iconst (pc := 52) (v := 0) dX10_next_52 (by decide) ?_
                refine R_istore_n3 (pc := 53) dX10_next_53 rfl (by decide) ?_
                refine R_iload_n0 (pc := 54) dX10_next_54 ?_
                refine R_bipush (pc := 55) (v := 9) dX10_next_55 (by decide) ?_
                refine R_idiv (pc := 57) dX10_next_57 (by decide) ?_
                refine R_iload_n2 (pc := 58) dX10_next_58 ?_
                refine R_iadd (pc := 59) dX10_next_59 ?_
                refine R_istore4 (pc := 60) dX10_next_60 rfl (by decide) ?_
                refine R_iload_n0 (pc := 62) dX10_next_62 ?_
                refine R_bipush (pc := 63) (v := 9) dX10_next_63 (by decide) ?_
                refine R_irem (pc := 65) dX10_next_65 (by decide) ?_
                refine R_iload_n3 (pc := 66) dX10_next_66 ?_
                refine R_iadd (pc := 67) dX10_next_67 ?_
                refine R_istore5 (pc := 68) dX10_next_68 rfl (by decide) ?_
                refine R_iload4 (pc := 70) dX10_next_70 ?_
                refine R_i2l (pc := 72) dX10_next_72 ?_
                refine R_lconst (pc := 73) (v := 0) dX10_next_73 (by decide) ?_
                refine R_ldc2 (pc := 74) dX10_next_74 kw923 ?_
                refine R_callS3 (pc := 77) cal_X10_in kw892 kw893 dX10_next_77 (c_X10_in rfl (lo := 0) (by decide) (hi := 8) (by decide)) (by decide) (Nat.le_of_ble_eq_true rfl) ?_
                rintro _ _ ⟨rfl, rfl⟩
                refine R_ifb_eq (pc := 80) 107 dX10_next_80 (by decide) (fun c_80 => ?_) (fun c_80 => ?_)
                · skip
                  refine R_iconst (pc := 107) (v := (-1)) dX10_next_107 (by decide) ?_
                  refine R_iret (pc := 108) rfl rfl dX10_next_108 ?_
                  have hr : z_rs d = 0 := by rw [z_rs, if_neg (fun z => z.elim c_2 c_7), if_neg (Int32.not_lt.mpr c_16)]
                  have hc : z_cs d = 0 := by rw [z_cs, if_neg (fun z => z.elim c_26 c_31), if_neg (fun z => z.elim c_40 c_45)]
                  exact ⟨by rw [z_next, hr, hc, if_neg (fun z => c_80 z.1)], rfl⟩
                · skip
                  refine R_iload5 (pc := 83) dX10_next_83 ?_
                  refine R_i2l (pc := 85) dX10_next_85 ?_
                  refine R_lconst (pc := 86) (v := 0) dX10_next_86 (by decide) ?_
                  refine R_ldc2 (pc := 87) dX10_next_87 kw923 ?_
                  refine R_callS3 (pc := 90) cal_X10_in kw892 kw893 dX10_next_90 (c_X10_in rfl (lo := 0) (by decide) (hi := 8) (by decide)) (by decide) (Nat.le_of_ble_eq_true rfl) ?_
                  rintro _ _ ⟨rfl, rfl⟩
                  refine R_ifb_eq (pc := 93) 107 dX10_next_93 (by decide) (fun c_93 => ?_) (fun c_93 => ?_)
                  · skip
                    refine R_iconst (pc := 107) (v := (-1)) dX10_next_107 (by decide) ?_
                    refine R_iret (pc := 108) rfl rfl dX10_next_108 ?_
                    have hr : z_rs d = 0 := by rw [z_rs, if_neg (fun z => z.elim c_2 c_7), if_neg (Int32.not_lt.mpr c_16)]
                    have hc : z_cs d = 0 := by rw [z_cs, if_neg (fun z => z.elim c_26 c_31), if_neg (fun z => z.elim c_40 c_45)]
                    exact ⟨by rw [z_next, hr, hc, if_neg (fun z => c_93 z.2)], rfl⟩
                  · skip
                    refine R_bipush (pc := 96) (v := 9) dX10_next_96 (by decide) ?_
                    refine R_iload4 (pc := 98) dX10_next_98 ?_
                    refine R_imul (pc := 100) dX10_next_100 ?_
                    refine R_iload5 (pc := 101) dX10_next_101 ?_
                    refine R_iadd (pc := 103) dX10_next_103 ?_
                    refine R_goto (pc := 104) 108 dX10_next_104 (by decide) ?_
                    refine R_iret (pc := 108) rfl rfl dX10_next_108 ?_
                    have hr : z_rs d = 0 := by rw [z_rs, if_neg (fun z => z.elim c_2 c_7), if_neg (Int32.not_lt.mpr c_16)]
                    have hc : z_cs d = 0 := by rw [z_cs, if_neg (fun z => z.elim c_26 c_31), if_neg (fun z => z.elim c_40 c_45)]
                    exact ⟨by rw [z_next, hr, hc, if_pos ⟨c_80, c_93⟩], rfl⟩
              · skip
                refine R_iconst (pc := 48) (v := (-1)) dX10_next_48 (by decide) ?_
                refine R_goto (pc := 49) 53 dX10_next_49 (by decide) ?_
                refine R_istore_n3 (pc := 53) dX10_next_53 rfl (by decide) ?_
                refine R_iload_n0 (pc := 54) dX10_next_54 ?_
                refine R_bipush (pc := 55) (v := 9) dX10_next_55 (by decide) ?_
                refine R_idiv (pc := 57) dX10_next_57 (by decide) ?_
                refine R_iload_n2 (pc := 58) dX10_next_58 ?_
                refine R_iadd (pc := 59) dX10_next_59 ?_
                refine R_istore4 (pc := 60) dX10_next_60 rfl (by decide) ?_
                refine R_iload_n0 (pc := 62) dX10_next_62 ?_
                refine R_bipush (pc := 63) (v := 9) dX10_next_63 (by decide) ?_
                refine R_irem (pc := 65) dX10_next_65 (by decide) ?_
                refine R_iload_n3 (pc := 66) dX10_next_66 ?_
                refine R_iadd (pc := 67) dX10_next_67 ?_
                refine R_istore5 (pc := 68) dX10_next_68 rfl (by decide) ?_
                refine R_iload4 (pc := 70) dX10_next_70 ?_
                refine R_i2l (pc := 72) dX10_next_72 ?_
                refine R_lconst (pc := 73) (v := 0) dX10_next_73 (by decide) ?_
                refine R_ldc2 (pc := 74) dX10_next_74 kw923 ?_
                refine R_callS3 (pc := 77) cal_X10_in kw892 kw893 dX10_next_77 (c_X10_in rfl (lo := 0) (by decide) (hi := 8) (by decide)) (by decide) (Nat.le_of_ble_eq_true rfl) ?_
                rintro _ _ ⟨rfl, rfl⟩
                refine R_ifb_eq (pc := 80) 107 dX10_next_80 (by decide) (fun c_80 => ?_) (fun c_80 => ?_)
                · skip
                  refine R_iconst (pc := 107) (v := (-1)) dX10_next_107 (by decide) ?_
                  refine R_iret (pc := 108) rfl rfl dX10_next_108 ?_
                  have hr : z_rs d = 0 := by rw [z_rs, if_neg (fun z => z.elim c_2 c_7), if_neg (Int32.not_lt.mpr c_16)]
                  have hc : z_cs d = (-1) := by rw [z_cs, if_neg (fun z => z.elim c_26 c_31), if_pos (Or.inr c_45)]
                  exact ⟨by rw [z_next, hr, hc, if_neg (fun z => c_80 z.1)], rfl⟩
                · skip
                  refine R_iload5 (pc := 83) dX10_next_83 ?_
                  refine R_i2l (pc := 85) dX10_next_85 ?_
                  refine R_lconst (pc := 86) (v := 0) dX10_next_86 (by decide) ?_
                  refine R_ldc2 (pc := 87) dX10_next_87 kw923 ?_
                  refine R_callS3 (pc := 90) cal_X10_in kw892 kw893 dX10_next_90 (c_X10_in rfl (lo := 0) (by decide) (hi := 8) (by decide)) (by decide) (Nat.le_of_ble_eq_true rfl) ?_
                  rintro _ _ ⟨rfl, rfl⟩
                  refine R_ifb_eq (pc := 93) 107 dX10_next_93 (by decide) (fun c_93 => ?_) (fun c_93 => ?_)
                  · skip
                    refine R_iconst (pc := 107) (v := (-1)) dX10_next_107 (by decide) ?_
                    refine R_iret (pc := 108) rfl rfl dX10_next_108 ?_
                    have hr : z_rs d = 0 := by rw [z_rs, if_neg (fun z => z.elim c_2 c_7), if_neg (Int32.not_lt.mpr c_16)]
                    have hc : z_cs d = (-1) := by rw [z_cs, if_neg (fun z => z.elim c_26 c_31), if_pos (Or.inr c_45)]
                    exact ⟨by rw [z_next, hr, hc, if_neg (fun z => c_93 z.2)], rfl⟩
                  · skip
                    refine R_bipush (pc := 96) (v := 9) dX10_next_96 (by decide) ?_
                    refine R_iload4 (pc := 98) dX10_next_98 ?_
                    refine R_imul (pc := 100) dX10_next_100 ?_
                    refine R_iload5 (pc := 101) dX10_next_101 ?_
                    refine R_iadd (pc := 103) dX10_next_103 ?_
                    refine R_goto (pc := 104) 108 dX10_next_104 (by decide) ?_
                    refine R_iret (pc := 108) rfl rfl dX10_next_108 ?_
                    have hr : z_rs d = 0 := by rw [z_rs, if_neg (fun z => z.elim c_2 c_7), if_neg (Int32.not_lt.mpr c_16)]
                    have hc : z_cs d = (-1) := by rw [z_cs, if_neg (fun z => z.elim c_26 c_31), if_pos (Or.inr c_45)]
                    exact ⟨by rw [z_next, hr, hc, if_pos ⟨c_80, c_93⟩], rfl⟩
          · skip
            refine R_iconst (pc := 34) (v := 1) dX10_next_34 (by decide) ?_
            refine R_goto (pc := 35) 53 dX10_next_35 (by decide) ?_
            refine R_istore_n3 (pc := 53) dX10_next_53 rfl (by decide) ?_
            refine R_iload_n0 (pc := 54) dX10_next_54 ?_
            refine R_bipush (pc := 55) (v := 9) dX10_next_55 (by decide) ?_
            refine R_idiv (pc := 57) dX10_next_57 (by decide) ?_
            refine R_iload_n2 (pc := 58) dX10_next_58 ?_
            refine R_iadd (pc := 59) dX10_next_59 ?_
            refine R_istore4 (pc := 60) dX10_next_60 rfl (by decide) ?_
            refine R_iload_n0 (pc := 62) dX10_next_62 ?_
            refine R_bipush (pc := 63) (v := 9) dX10_next_63 (by decide) ?_
            refine R_irem (pc := 65) dX10_next_65 (by decide) ?_
            refine R_iload_n3 (pc := 66) dX10_next_66 ?_
            refine R_iadd (pc := 67) dX10_next_67 ?_
            refine R_istore5 (pc := 68) dX10_next_68 rfl (by decide) ?_
            refine R_iload4 (pc := 70) dX10_next_70 ?_
            refine R_i2l (pc := 72) dX10_next_72 ?_
            refine R_lconst (pc := 73) (v := 0) dX10_next_73 (by decide) ?_
            refine R_ldc2 (pc := 74) dX10_next_74 kw923 ?_
            refine R_callS3 (pc := 77) cal_X10_in kw892 kw893 dX10_next_77 (c_X10_in rfl (lo := 0) (by decide) (hi := 8) (by decide)) (by decide) (Nat.le_of_ble_eq_true rfl) ?_
            rintro _ _ ⟨rfl, rfl⟩
            refine R_ifb_eq (pc := 80) 107 dX10_next_80 (by decide) (fun c_80 => ?_) (fun c_80 => ?_)
            · skip
              refine R_iconst (pc := 107) (v := (-1)) dX10_next_107 (by decide) ?_
              refine R_iret (pc := 108) rfl rfl dX10_next_108 ?_
              have hr : z_rs d = 0 := by rw [z_rs, if_neg (fun z => z.elim c_2 c_7), if_neg (Int32.not_lt.mpr c_16)]
              have hc : z_cs d = 1 := by rw [z_cs, if_pos (Or.inr c_31)]
              exact ⟨by rw [z_next, hr, hc, if_neg (fun z => c_80 z.1)], rfl⟩
            · skip
              refine R_iload5 (pc := 83) dX10_next_83 ?_
              refine R_i2l (pc := 85) dX10_next_85 ?_
              refine R_lconst (pc := 86) (v := 0) dX10_next_86 (by decide) ?_
              refine R_ldc2 (pc := 87) dX10_next_87 kw923 ?_
              refine R_callS3 (pc := 90) cal_X10_in kw892 kw893 dX10_next_90 (c_X10_in rfl (lo := 0) (by decide) (hi := 8) (by decide)) (by decide) (Nat.le_of_ble_eq_true rfl) ?_
              rintro _ _ ⟨rfl, rfl⟩
              refine R_ifb_eq (pc := 93) 107 dX10_next_93 (by decide) (fun c_93 => ?_) (fun c_93 => ?_)
              · skip
                refine R_iconst (pc := 107) (v := (-1)) dX10_next_107 (by decide) ?_
                refine R_iret (pc := 108) rfl rfl dX10_next_108 ?_
                have hr : z_rs d = 0 := by rw [z_rs, if_neg (fun z => z.elim c_2 c_7), if_neg (Int32.not_lt.mpr c_16)]
                have hc : z_cs d = 1 := by rw [z_cs, if_pos (Or.inr c_31)]
                exact ⟨by rw [z_next, hr, hc, if_neg (fun z => c_93 z.2)], rfl⟩
              · skip
                refine R_bipush (pc := 96) (v := 9) dX10_next_96 (by decide) ?_
                refine R_iload4 (pc := 98) dX10_next_98 ?_
                refine R_imul (pc := 100) dX10_next_100 ?_
                refine R_iload5 (pc := 101) dX10_next_101 ?_
                refine R_iadd (pc := 103) dX10_next_103 ?_
                refine R_goto (pc := 104) 108 dX10_next_104 (by decide) ?_
                refine R_iret (pc := 108) rfl rfl dX10_next_108 ?_
                have hr : z_rs d = 0 := by rw [z_rs, if_neg (fun z => z.elim c_2 c_7), if_neg (Int32.not_lt.mpr c_16)]
                have hc : z_cs d = 1 := by rw [z_cs, if_pos (Or.inr c_31)]
                exact ⟨by rw [z_next, hr, hc, if_pos ⟨c_80, c_93⟩], rfl⟩
      · skip
        have d_16 := Int32.not_le.mp c_16
        refine R_iconst (pc := 19) (v := (-1)) dX10_next_19 (by decide) ?_
        refine R_goto (pc := 20) 24 dX10_next_20 (by decide) ?_
        refine R_istore_n2 (pc := 24) dX10_next_24 rfl (by decide) ?_
        refine R_iload_n1 (pc := 25) dX10_next_25 ?_
        refine R_if_eq (pc := 26) 34 dX10_next_26 (by decide) (fun c_26 => ?_) (fun c_26 => ?_)
        · skip
          refine R_iconst (pc := 34) (v := 1) dX10_next_34 (by decide) ?_
          refine R_goto (pc := 35) 53 dX10_next_35 (by decide) ?_
          refine R_istore_n3 (pc := 53) dX10_next_53 rfl (by decide) ?_
          refine R_iload_n0 (pc := 54) dX10_next_54 ?_
          refine R_bipush (pc := 55) (v := 9) dX10_next_55 (by decide) ?_
          refine R_idiv (pc := 57) dX10_next_57 (by decide) ?_
          refine R_iload_n2 (pc := 58) dX10_next_58 ?_
          refine R_iadd (pc := 59) dX10_next_59 ?_
          refine R_istore4 (pc := 60) dX10_next_60 rfl (by decide) ?_
          refine R_iload_n0 (pc := 62) dX10_next_62 ?_
          refine R_bipush (pc := 63) (v := 9) dX10_next_63 (by decide) ?_
          refine R_irem (pc := 65) dX10_next_65 (by decide) ?_
          refine R_iload_n3 (pc := 66) dX10_next_66 ?_
          refine R_iadd (pc := 67) dX10_next_67 ?_
          refine R_istore5 (pc := 68) dX10_next_68 rfl (by decide) ?_
          refine R_iload4 (pc := 70) dX10_next_70 ?_
          refine R_i2l (pc := 72) dX10_next_72 ?_
          refine R_lconst (pc := 73) (v := 0) dX10_next_73 (by decide) ?_
          refine R_ldc2 (pc := 74) dX10_next_74 kw923 ?_
          refine R_callS3 (pc := 77) cal_X10_in kw892 kw893 dX10_next_77 (c_X10_in rfl (lo := 0) (by decide) (hi := 8) (by decide)) (by decide) (Nat.le_of_ble_eq_true rfl) ?_
          rintro _ _ ⟨rfl, rfl⟩
          refine R_ifb_eq (pc := 80) 107 dX10_next_80 (by decide) (fun c_80 => ?_) (fun c_80 => ?_)
          · skip
            refine R_iconst (pc := 107) (v := (-1)) dX10_next_107 (by decide) ?_
            refine R_iret (pc := 108) rfl rfl dX10_next_108 ?_
            have hr : z_rs d = (-1) := by rw [z_rs, if_neg (fun z => z.elim c_2 c_7), if_pos (Int32.not_le.mp c_16)]
            have hc : z_cs d = 1 := by rw [z_cs, if_pos (Or.inl c_26)]
            exact ⟨by rw [z_next, hr, hc, if_neg (fun z => c_80 z.1)], rfl⟩
          · skip
            refine R_iload5 (pc := 83) dX10_next_83 ?_
            refine R_i2l (pc := 85) dX10_next_85 ?_
            refine R_lconst (pc := 86) (v := 0) dX10_next_86 (by decide) ?_
            refine R_ldc2 (pc := 87) dX10_next_87 kw923 ?_
            refine R_callS3 (pc := 90) cal_X10_in kw892 kw893 dX10_next_90 (c_X10_in rfl (lo := 0) (by decide) (hi := 8) (by decide)) (by decide) (Nat.le_of_ble_eq_true rfl) ?_
            rintro _ _ ⟨rfl, rfl⟩
            refine R_ifb_eq (pc := 93) 107 dX10_next_93 (by decide) (fun c_93 => ?_) (fun c_93 => ?_)
            · skip
              refine R_iconst (pc := 107) (v := (-1)) dX10_next_107 (by decide) ?_
              refine R_iret (pc := 108) rfl rfl dX10_next_108 ?_
              have hr : z_rs d = (-1) := by rw [z_rs, if_neg (fun z => z.elim c_2 c_7), if_pos (Int32.not_le.mp c_16)]
              have hc : z_cs d = 1 := by rw [z_cs, if_pos (Or.inl c_26)]
              exact ⟨by rw [z_next, hr, hc, if_neg (fun z => c_93 z.2)], rfl⟩
            · skip
              refine R_bipush (pc := 96) (v := 9) dX10_next_96 (by decide) ?_
              refine R_iload4 (pc := 98) dX10_next_98 ?_
              refine R_imul (pc := 100) dX10_next_100 ?_
              refine R_iload5 (pc := 101) dX10_next_101 ?_
              refine R_iadd (pc := 103) dX10_next_103 ?_
              refine R_goto (pc := 104) 108 dX10_next_104 (by decide) ?_
              refine R_iret (pc := 108) rfl rfl dX10_next_108 ?_
              have hr : z_rs d = (-1) := by rw [z_rs, if_neg (fun z => z.elim c_2 c_7), if_pos (Int32.not_le.mp c_16)]
              have hc : z_cs d = 1 := by rw [z_cs, if_pos (Or.inl c_26)]
              exact ⟨by rw [z_next, hr, hc, if_pos ⟨c_80, c_93⟩], rfl⟩
        · skip
          refine R_iload_n1 (pc := 29) dX10_next_29 ?_
          refine R_iconst (pc := 30) (v := 5) dX10_next_30 (by decide) ?_
          refine R_icmp_ne (pc := 31) 38 dX10_next_31 (by decide) (fun c_31 => ?_) (fun c_31 => ?_)
          · skip
            refine R_iload_n1 (pc := 38) dX10_next_38 ?_
            refine R_iconst (pc := 39) (v := 2) dX10_next_39 (by decide) ?_
            refine R_icmp_eq (pc := 40) 48 dX10_next_40 (by decide) (fun c_40 => ?_) (fun c_40 => ?_)
            · skip
              refine R_iconst (pc := 48) (v := (-1)) dX10_next_48 (by decide) ?_
              refine R_goto (pc := 49) 53 dX10_next_49 (by decide) ?_
              refine R_istore_n3 (pc := 53) dX10_next_53 rfl (by decide) ?_
              refine R_iload_n0 (pc := 54) dX10_next_54 ?_
              refine R_bipush (pc := 55) (v := 9) dX10_next_55 (by decide) ?_
              refine R_idiv (pc := 57) dX10_next_57 (by decide) ?_
              refine R_iload_n2 (pc := 58) dX10_next_58 ?_
              refine R_iadd (pc := 59) dX10_next_59 ?_
              refine R_istore4 (pc := 60) dX10_next_60 rfl (by decide) ?_
              refine R_iload_n0 (pc := 62) dX10_next_62 ?_
              refine R_bipush (pc := 63) (v := 9) dX10_next_63 (by decide) ?_
              refine R_irem (pc := 65) dX10_next_65 (by decide) ?_
              refine R_iload_n3 (pc := 66) dX10_next_66 ?_
              refine R_iadd (pc := 67) dX10_next_67 ?_
              refine R_istore5 (pc := 68) dX10_next_68 rfl (by decide) ?_
              refine R_iload4 (pc := 70) dX10_next_70 ?_
              refine R_i2l (pc := 72) dX10_next_72 ?_
              refine R_lconst (pc := 73) (v := 0) dX10_next_73 (by decide) ?_
              refine R_ldc2 (pc := 74) dX10_next_74 kw923 ?_
              refine R_callS3 (pc := 77) cal_X10_in kw892 kw893 dX10_next_77 (c_X10_in rfl (lo := 0) (by decide) (hi := 8) (by decide)) (by decide) (Nat.le_of_ble_eq_true rfl) ?_
              rintro _ _ ⟨rfl, rfl⟩
              refine R_ifb_eq (pc := 80) 107 dX10_next_80 (by decide) (fun c_80 => ?_) (fun c_80 => ?_)
              · skip
                refine R_iconst (pc := 107) (v := (-1)) dX10_next_107 (by decide) ?_
                refine R_iret (pc := 108) rfl rfl dX10_next_108 ?_
                have hr : z_rs d = (-1) := by rw [z_rs, if_neg (fun z => z.elim c_2 c_7), if_pos (Int32.not_le.mp c_16)]
                have hc : z_cs d = (-1) := by rw [z_cs, if_neg (fun z => z.elim c_26 c_31), if_pos (Or.inl c_40)]
                exact ⟨by rw [z_next, hr, hc, if_neg (fun z => c_80 z.1)], rfl⟩
              · skip
                refine R_iload5 (pc := 83) dX10_next_83 ?_
                refine R_i2l (pc := 85) dX10_next_85 ?_
                refine R_lconst (pc := 86) (v := 0) dX10_next_86 (by decide) ?_
                refine R_ldc2 (pc := 87) dX10_next_87 kw923 ?_
                refine R_callS3 (pc := 90) cal_X10_in kw892 kw893 dX10_next_90 (c_X10_in rfl (lo := 0) (by decide) (hi := 8) (by decide)) (by decide) (Nat.le_of_ble_eq_true rfl) ?_
                rintro _ _ ⟨rfl, rfl⟩
                refine R_ifb_eq (pc := 93) 107 dX10_next_93 (by decide) (fun c_93 => ?_) (fun c_93 => ?_)
                · skip
                  refine R_iconst (pc := 107) (v := (-1)) dX10_next_107 (by decide) ?_
                  refine R_iret (pc := 108) rfl rfl dX10_next_108 ?_
                  have hr : z_rs d = (-1) := by rw [z_rs, if_neg (fun z => z.elim c_2 c_7), if_pos (Int32.not_le.mp c_16)]
                  have hc : z_cs d = (-1) := by rw [z_cs, if_neg (fun z => z.elim c_26 c_31), if_pos (Or.inl c_40)]
                  exact ⟨by rw [z_next, hr, hc, if_neg (fun z => c_93 z.2)], rfl⟩
                · skip
                  refine R_bipush (pc := 96) (v := 9) dX10_next_96 (by decide) ?_
                  refine R_iload4 (pc := 98) dX10_next_98 ?_
                  refine R_imul (pc := 100) dX10_next_100 ?_
                  refine R_iload5 (pc := 101) dX10_next_101 ?_
                  refine R_iadd (pc := 103) dX10_next_103 ?_
                  refine R_goto (pc := 104) 108 dX10_next_104 (by decide) ?_
                  refine R_iret (pc := 108) rfl rfl dX10_next_108 ?_
                  have hr : z_rs d = (-1) := by rw [z_rs, if_neg (fun z => z.elim c_2 c_7), if_pos (Int32.not_le.mp c_16)]
                  have hc : z_cs d = (-1) := by rw [z_cs, if_neg (fun z => z.elim c_26 c_31), if_pos (Or.inl c_40)]
                  exact ⟨by rw [z_next, hr, hc, if_pos ⟨c_80, c_93⟩], rfl⟩
            · skip
              refine R_iload_n1 (pc := 43) dX10_next_43 ?_
              refine R_iconst (pc := 44) (v := 3) dX10_next_44 (by decide) ?_
              refine R_icmp_ne (pc := 45) 52 dX10_next_45 (by decide) (fun c_45 => ?_) (fun c_45 => ?_)
              · skip
                refine R_iconst (pc := 52) (v := 0) dX10_next_52 (by decide) ?_
                refine R_istore_n3 (pc := 53) dX10_next_53 rfl (by decide) ?_
                refine R_iload_n0 (pc := 54) dX10_next_54 ?_
                refine R_bipush (pc := 55) (v := 9) dX10_next_55 (by decide) ?_
                refine R_idiv (pc := 57) dX10_next_57 (by decide) ?_
                refine R_iload_n2 (pc := 58) dX10_next_58 ?_
                refine R_iadd (pc := 59) dX10_next_59 ?_
                refine R_istore4 (pc := 60) dX10_next_60 rfl (by decide) ?_
                refine R_iload_n0 (pc := 62) dX10_next_62 ?_
                refine R_bipush (pc := 63) (v := 9) dX10_next_63 (by decide) ?_
                refine R_irem (pc := 65) dX10_next_65 (by decide) ?_
                refine R_iload_n3 (pc := 66) dX10_next_66 ?_
                refine R_iadd (pc := 67) dX10_next_67 ?_
                refine R_istore5 (pc := 68) dX10_next_68 rfl (by decide) ?_
                refine R_iload4 (pc := 70) dX10_next_70 ?_
                refine R_i2l (pc := 72) dX10_next_72 ?_
                refine R_lconst (pc := 73) (v := 0) dX10_next_73 (by decide) ?_
                refine R_ldc2 (pc := 74) dX10_next_74 kw923 ?_
                refine R_callS3 (pc := 77) cal_X10_in kw892 kw893 dX10_next_77 (c_X10_in rfl (lo := 0) (by decide) (hi := 8) (by decide)) (by decide) (Nat.le_of_ble_eq_true rfl) ?_
                rintro _ _ ⟨rfl, rfl⟩
                refine R_ifb_eq (pc := 80) 107 dX10_next_80 (by decide) (fun c_80 => ?_) (fun c_80 => ?_)
                · skip
                  refine R_iconst (pc := 107) (v := (-1)) dX10_next_107 (by decide) ?_
                  refine R_iret (pc := 108) rfl rfl dX10_next_108 ?_
                  have hr : z_rs d = (-1) := by rw [z_rs, if_neg (fun z => z.elim c_2 c_7), if_pos (Int32.not_le.mp c_16)]
                  have hc : z_cs d = 0 := by rw [z_cs, if_neg (fun z => z.elim c_26 c_31), if_neg (fun z => z.elim c_40 c_45)]
                  exact ⟨by rw [z_next, hr, hc, if_neg (fun z => c_80 z.1)], rfl⟩
                · skip
                  refine R_iload5 (pc := 83) dX10_next_83 ?_
                  refine R_i2l (pc := 85) dX10_next_85 ?_
                  refine R_lconst (pc := 86) (v := 0) dX10_next_86 (by decide) ?_
                  refine R_ldc2 (pc := 87) dX10_next_87 kw923 ?_
                  refine R_callS3 (pc := 90) cal_X10_in kw892 kw893 dX10_next_90 (c_X10_in rfl (lo := 0) (by decide) (hi := 8) (by decide)) (by decide) (Nat.le_of_ble_eq_true rfl) ?_
                  rintro _ _ ⟨rfl, rfl⟩
                  refine R_ifb_eq (pc := 93) 107 dX10_next_93 (by decide) (fun c_93 => ?_) (fun c_93 => ?_)
                  · skip
                    refine R_iconst (pc := 107) (v := (-1)) dX10_next_107 (by decide) ?_
                    refine R_iret (pc := 108) rfl rfl dX10_next_108 ?_
                    have hr : z_rs d = (-1) := by rw [z_rs, if_neg (fun z => z.elim c_2 c_7), if_pos (Int32.not_le.mp c_16)]
                    have hc : z_cs d = 0 := by rw [z_cs, if_neg (fun z => z.elim c_26 c_31), if_neg (fun z => z.elim c_40 c_45)]
                    exact ⟨by rw [z_next, hr, hc, if_neg (fun z => c_93 z.2)], rfl⟩
                  · skip
                    refine R_bipush (pc := 96) (v := 9) dX10_next_96 (by decide) ?_
                    refine R_iload4 (pc := 98) dX10_next_98 ?_
                    refine R_imul (pc := 100) dX10_next_100 ?_
                    refine R_iload5 (pc := 101) dX10_next_101 ?_
                    refine R_iadd (pc := 103) dX10_next_103 ?_
                    refine R_goto (pc := 104) 108 dX10_next_104 (by decide) ?_
                    refine R_iret (pc := 108) rfl rfl dX10_next_108 ?_
                    have hr : z_rs d = (-1) := by rw [z_rs, if_neg (fun z => z.elim c_2 c_7), if_pos (Int32.not_le.mp c_16)]
                    have hc : z_cs d = 0 := by rw [z_cs, if_neg (fun z => z.elim c_26 c_31), if_neg (fun z => z.elim c_40 c_45)]
                    exact ⟨by rw [z_next, hr, hc, if_pos ⟨c_80, c_93⟩], rfl⟩
              · skip
                refine R_iconst (pc := 48) (v := (-1)) dX10_next_48 (by decide) ?_
                refine R_goto (pc := 49) 53 dX10_next_49 (by decide) ?_
                refine R_istore_n3 (pc := 53) dX10_next_53 rfl (by decide) ?_
                refine R_iload_n0 (pc := 54) dX10_next_54 ?_
                refine R_bipush (pc := 55) (v := 9) dX10_next_55 (by decide) ?_
                refine R_idiv (pc := 57) dX10_next_57 (by decide) ?_
                refine R_iload_n2 (pc := 58) dX10_next_58 ?_
                refine R_iadd (pc := 59) dX10_next_59 ?_
                refine R_istore4 (pc := 60) dX10_next_60 rfl (by decide) ?_
                refine R_iload_n0 (pc := 62) dX10_next_62 ?_
                refine R_bipush (pc := 63) (v := 9) dX10_next_63 (by decide) ?_
                refine R_irem (pc := 65) dX10_next_65 (by decide) ?_
                refine R_iload_n3 (pc := 66) dX10_next_66 ?_
                refine R_iadd (pc := 67) dX10_next_67 ?_
                refine R_istore5 (pc := 68) dX10_next_68 rfl (by decide) ?_
                refine R_iload4 (pc := 70) dX10_next_70 ?_
                refine R_i2l (pc := 72) dX10_next_72 ?_
                refine R_lconst (pc := 73) (v := 0) dX10_next_73 (by decide) ?_
                refine R_ldc2 (pc := 74) dX10_next_74 kw923 ?_
                refine R_callS3 (pc := 77) cal_X10_in kw892 kw893 dX10_next_77 (c_X10_in rfl (lo := 0) (by decide) (hi := 8) (by decide)) (by decide) (Nat.le_of_ble_eq_true rfl) ?_
                rintro _ _ ⟨rfl, rfl⟩
                refine R_ifb_eq (pc := 80) 107 dX10_next_80 (by decide) (fun c_80 => ?_) (fun c_80 => ?_)
                · skip
                  refine R_iconst (pc := 107) (v := (-1)) dX10_next_107 (by decide) ?_
                  refine R_iret (pc := 108) rfl rfl dX10_next_108 ?_
                  have hr : z_rs d = (-1) := by rw [z_rs, if_neg (fun z => z.elim c_2 c_7), if_pos (Int32.not_le.mp c_16)]
                  have hc : z_cs d = (-1) := by rw [z_cs, if_neg (fun z => z.elim c_26 c_31), if_pos (Or.inr c_45)]
                  exact ⟨by rw [z_next, hr, hc, if_neg (fun z => c_80 z.1)], rfl⟩
                · skip
                  refine R_iload5 (pc := 83) dX10_next_83 ?_
                  refine R_i2l (pc := 85) dX10_next_85 ?_
                  refine R_lconst (pc := 86) (v := 0) dX10_next_86 (by decide) ?_
                  refine R_ldc2 (pc := 87) dX10_next_87 kw923 ?_
                  refine R_callS3 (pc := 90) cal_X10_in kw892 kw893 dX10_next_90 (c_X10_in rfl (lo := 0) (by decide) (hi := 8) (by decide)) (by decide) (Nat.le_of_ble_eq_true rfl) ?_
                  rintro _ _ ⟨rfl, rfl⟩
                  refine R_ifb_eq (pc := 93) 107 dX10_next_93 (by decide) (fun c_93 => ?_) (fun c_93 => ?_)
                  · skip
                    refine R_iconst (pc := 107) (v := (-1)) dX10_next_107 (by decide) ?_
                    refine R_iret (pc := 108) rfl rfl dX10_next_108 ?_
                    have hr : z_rs d = (-1) := by rw [z_rs, if_neg (fun z => z.elim c_2 c_7), if_pos (Int32.not_le.mp c_16)]
                    have hc : z_cs d = (-1) := by rw [z_cs, if_neg (fun z => z.elim c_26 c_31), if_pos (Or.inr c_45)]
                    exact ⟨by rw [z_next, hr, hc, if_neg (fun z => c_93 z.2)], rfl⟩
                  · skip
                    refine R_bipush (pc := 96) (v := 9) dX10_next_96 (by decide) ?_
                    refine R_iload4 (pc := 98) dX10_next_98 ?_
                    refine R_imul (pc := 100) dX10_next_100 ?_
                    refine R_iload5 (pc := 101) dX10_next_101 ?_
                    refine R_iadd (pc := 103) dX10_next_103 ?_
                    refine R_goto (pc := 104) 108 dX10_next_104 (by decide) ?_
                    refine R_iret (pc := 108) rfl rfl dX10_next_108 ?_
                    have hr : z_rs d = (-1) := by rw [z_rs, if_neg (fun z => z.elim c_2 c_7), if_pos (Int32.not_le.mp c_16)]
                    have hc : z_cs d = (-1) := by rw [z_cs, if_neg (fun z => z.elim c_26 c_31), if_pos (Or.inr c_45)]
                    exact ⟨by rw [z_next, hr, hc, if_pos ⟨c_80, c_93⟩], rfl⟩
          · skip
            refine R_iconst (pc := 34) (v := 1) dX10_next_34 (by decide) ?_
            refine R_goto (pc := 35) 53 dX10_next_35 (by decide) ?_
            refine R_istore_n3 (pc := 53) dX10_next_53 rfl (by decide) ?_
            refine R_iload_n0 (pc := 54) dX10_next_54 ?_
            refine R_bipush (pc := 55) (v := 9) dX10_next_55 (by decide) ?_
            refine R_idiv (pc := 57) dX10_next_57 (by decide) ?_
            refine R_iload_n2 (pc := 58) dX10_next_58 ?_
            refine R_iadd (pc := 59) dX10_next_59 ?_
            refine R_istore4 (pc := 60) dX10_next_60 rfl (by decide) ?_
            refine R_iload_n0 (pc := 62) dX10_next_62 ?_
            refine R_bipush (pc := 63) (v := 9) dX10_next_63 (by decide) ?_
            refine R_irem (pc := 65) dX10_next_65 (by decide) ?_
            refine R_iload_n3 (pc := 66) dX10_next_66 ?_
            refine R_iadd (pc := 67) dX10_next_67 ?_
            refine R_istore5 (pc := 68) dX10_next_68 rfl (by decide) ?_
            refine R_iload4 (pc := 70) dX10_next_70 ?_
            refine R_i2l (pc := 72) dX10_next_72 ?_
            refine R_lconst (pc := 73) (v := 0) dX10_next_73 (by decide) ?_
            refine R_ldc2 (pc := 74) dX10_next_74 kw923 ?_
            refine R_callS3 (pc := 77) cal_X10_in kw892 kw893 dX10_next_77 (c_X10_in rfl (lo := 0) (by decide) (hi := 8) (by decide)) (by decide) (Nat.le_of_ble_eq_true rfl) ?_
            rintro _ _ ⟨rfl, rfl⟩
            refine R_ifb_eq (pc := 80) 107 dX10_next_80 (by decide) (fun c_80 => ?_) (fun c_80 => ?_)
            · skip
              refine R_iconst (pc := 107) (v := (-1)) dX10_next_107 (by decide) ?_
              refine R_iret (pc := 108) rfl rfl dX10_next_108 ?_
              have hr : z_rs d = (-1) := by rw [z_rs, if_neg (fun z => z.elim c_2 c_7), if_pos (Int32.not_le.mp c_16)]
              have hc : z_cs d = 1 := by rw [z_cs, if_pos (Or.inr c_31)]
              exact ⟨by rw [z_next, hr, hc, if_neg (fun z => c_80 z.1)], rfl⟩
            · skip
              refine R_iload5 (pc := 83) dX10_next_83 ?_
              refine R_i2l (pc := 85) dX10_next_85 ?_
              refine R_lconst (pc := 86) (v := 0) dX10_next_86 (by decide) ?_
              refine R_ldc2 (pc := 87) dX10_next_87 kw923 ?_
              refine R_callS3 (pc := 90) cal_X10_in kw892 kw893 dX10_next_90 (c_X10_in rfl (lo := 0) (by decide) (hi := 8) (by decide)) (by decide) (Nat.le_of_ble_eq_true rfl) ?_
              rintro _ _ ⟨rfl, rfl⟩
              refine R_ifb_eq (pc := 93) 107 dX10_next_93 (by decide) (fun c_93 => ?_) (fun c_93 => ?_)
              · skip
                refine R_iconst (pc := 107) (v := (-1)) dX10_next_107 (by decide) ?_
                refine R_iret (pc := 108) rfl rfl dX10_next_108 ?_
                have hr : z_rs d = (-1) := by rw [z_rs, if_neg (fun z => z.elim c_2 c_7), if_pos (Int32.not_le.mp c_16)]
                have hc : z_cs d = 1 := by rw [z_cs, if_pos (Or.inr c_31)]
                exact ⟨by rw [z_next, hr, hc, if_neg (fun z => c_93 z.2)], rfl⟩
              · skip
                refine R_bipush (pc := 96) (v := 9) dX10_next_96 (by decide) ?_
                refine R_iload4 (pc := 98) dX10_next_98 ?_
                refine R_imul (pc := 100) dX10_next_100 ?_
                refine R_iload5 (pc := 101) dX10_next_101 ?_
                refine R_iadd (pc := 103) dX10_next_103 ?_
                refine R_goto (pc := 104) 108 dX10_next_104 (by decide) ?_
                refine R_iret (pc := 108) rfl rfl dX10_next_108 ?_
                have hr : z_rs d = (-1) := by rw [z_rs, if_neg (fun z => z.elim c_2 c_7), if_pos (Int32.not_le.mp c_16)]
                have hc : z_cs d = 1 := by rw [z_cs, if_pos (Or.inr c_31)]
                exact ⟨by rw [z_next, hr, hc, if_pos ⟨c_80, c_93⟩], rfl⟩
    · skip
      refine R_iconst (pc := 10) (v := 1) dX10_next_10 (by decide) ?_
      refine R_goto (pc := 11) 24 dX10_next_11 (by decide) ?_
      refine R_istore_n2 (pc := 24) dX10_next_24 rfl (by decide) ?_
      refine R_iload_n1 (pc := 25) dX10_next_25 ?_
      refine R_if_eq (pc := 26) 34 dX10_next_26 (by decide) (fun c_26 => ?_) (fun c_26 => ?_)
      · skip
        refine R_iconst (pc := 34) (v := 1) dX10_next_34 (by decide) ?_
        refine R_goto (pc := 35) 53 dX10_next_35 (by decide) ?_
        refine R_istore_n3 (pc := 53) dX10_next_53 rfl (by decide) ?_
        refine R_iload_n0 (pc := 54) dX10_next_54 ?_
        refine R_bipush (pc := 55) (v := 9) dX10_next_55 (by decide) ?_
        refine R_idiv (pc := 57) dX10_next_57 (by decide) ?_
        refine R_iload_n2 (pc := 58) dX10_next_58 ?_
        refine R_iadd (pc := 59) dX10_next_59 ?_
        refine R_istore4 (pc := 60) dX10_next_60 rfl (by decide) ?_
        refine R_iload_n0 (pc := 62) dX10_next_62 ?_
        refine R_bipush (pc := 63) (v := 9) dX10_next_63 (by decide) ?_
        refine R_irem (pc := 65) dX10_next_65 (by decide) ?_
        refine R_iload_n3 (pc := 66) dX10_next_66 ?_
        refine R_iadd (pc := 67) dX10_next_67 ?_
        refine R_istore5 (pc := 68) dX10_next_68 rfl (by decide) ?_
        refine R_iload4 (pc := 70) dX10_next_70 ?_
        refine R_i2l (pc := 72) dX10_next_72 ?_
        refine R_lconst (pc := 73) (v := 0) dX10_next_73 (by decide) ?_
        refine R_ldc2 (pc := 74) dX10_next_74 kw923 ?_
        refine R_callS3 (pc := 77) cal_X10_in kw892 kw893 dX10_next_77 (c_X10_in rfl (lo := 0) (by decide) (hi := 8) (by decide)) (by decide) (Nat.le_of_ble_eq_true rfl) ?_
        rintro _ _ ⟨rfl, rfl⟩
        refine R_ifb_eq (pc := 80) 107 dX10_next_80 (by decide) (fun c_80 => ?_) (fun c_80 => ?_)
        · skip
          refine R_iconst (pc := 107) (v := (-1)) dX10_next_107 (by decide) ?_
          refine R_iret (pc := 108) rfl rfl dX10_next_108 ?_
          have hr : z_rs d = 1 := by rw [z_rs, if_pos (Or.inr c_7)]
          have hc : z_cs d = 1 := by rw [z_cs, if_pos (Or.inl c_26)]
          exact ⟨by rw [z_next, hr, hc, if_neg (fun z => c_80 z.1)], rfl⟩
        · skip
          refine R_iload5 (pc := 83) dX10_next_83 ?_
          refine R_i2l (pc := 85) dX10_next_85 ?_
          refine R_lconst (pc := 86) (v := 0) dX10_next_86 (by decide) ?_
          refine R_ldc2 (pc := 87) dX10_next_87 kw923 ?_
          refine R_callS3 (pc := 90) cal_X10_in kw892 kw893 dX10_next_90 (c_X10_in rfl (lo := 0) (by decide) (hi := 8) (by decide)) (by decide) (Nat.le_of_ble_eq_true rfl) ?_
          rintro _ _ ⟨rfl, rfl⟩
          refine R_ifb_eq (pc := 93) 107 dX10_next_93 (by decide) (fun c_93 => ?_) (fun c_93 => ?_)
          · skip
            refine R_iconst (pc := 107) (v := (-1)) dX10_next_107 (by decide) ?_
            refine R_iret (pc := 108) rfl rfl dX10_next_108 ?_
            have hr : z_rs d = 1 := by rw [z_rs, if_pos (Or.inr c_7)]
            have hc : z_cs d = 1 := by rw [z_cs, if_pos (Or.inl c_26)]
            exact ⟨by rw [z_next, hr, hc, if_neg (fun z => c_93 z.2)], rfl⟩
          · skip
            refine R_bipush (pc := 96) (v := 9) dX10_next_96 (by decide) ?_
            refine R_iload4 (pc := 98) dX10_next_98 ?_
            refine R_imul (pc := 100) dX10_next_100 ?_
            refine R_iload5 (pc := 101) dX10_next_101 ?_
            refine R_iadd (pc := 103) dX10_next_103 ?_
            refine R_goto (pc := 104) 108 dX10_next_104 (by decide) ?_
            refine R_iret (pc := 108) rfl rfl dX10_next_108 ?_
            have hr : z_rs d = 1 := by rw [z_rs, if_pos (Or.inr c_7)]
            have hc : z_cs d = 1 := by rw [z_cs, if_pos (Or.inl c_26)]
            exact ⟨by rw [z_next, hr, hc, if_pos ⟨c_80, c_93⟩], rfl⟩
      · skip
        refine R_iload_n1 (pc := 29) dX10_next_29 ?_
        refine R_iconst (pc := 30) (v := 5) dX10_next_30 (by decide) ?_
        refine R_icmp_ne (pc := 31) 38 dX10_next_31 (by decide) (fun c_31 => ?_) (fun c_31 => ?_)
        · skip
          refine R_iload_n1 (pc := 38) dX10_next_38 ?_
          refine R_iconst (pc := 39) (v := 2) dX10_next_39 (by decide) ?_
          refine R_icmp_eq (pc := 40) 48 dX10_next_40 (by decide) (fun c_40 => ?_) (fun c_40 => ?_)
          · skip
            refine R_iconst (pc := 48) (v := (-1)) dX10_next_48 (by decide) ?_
            refine R_goto (pc := 49) 53 dX10_next_49 (by decide) ?_
            refine R_istore_n3 (pc := 53) dX10_next_53 rfl (by decide) ?_
            refine R_iload_n0 (pc := 54) dX10_next_54 ?_
            refine R_bipush (pc := 55) (v := 9) dX10_next_55 (by decide) ?_
            refine R_idiv (pc := 57) dX10_next_57 (by decide) ?_
            refine R_iload_n2 (pc := 58) dX10_next_58 ?_
            refine R_iadd (pc := 59) dX10_next_59 ?_
            refine R_istore4 (pc := 60) dX10_next_60 rfl (by decide) ?_
            refine R_iload_n0 (pc := 62) dX10_next_62 ?_
            refine R_bipush (pc := 63) (v := 9) dX10_next_63 (by decide) ?_
            refine R_irem (pc := 65) dX10_next_65 (by decide) ?_
            refine R_iload_n3 (pc := 66) dX10_next_66 ?_
            refine R_iadd (pc := 67) dX10_next_67 ?_
            refine R_istore5 (pc := 68) dX10_next_68 rfl (by decide) ?_
            refine R_iload4 (pc := 70) dX10_next_70 ?_
            refine R_i2l (pc := 72) dX10_next_72 ?_
            refine R_lconst (pc := 73) (v := 0) dX10_next_73 (by decide) ?_
            refine R_ldc2 (pc := 74) dX10_next_74 kw923 ?_
            refine R_callS3 (pc := 77) cal_X10_in kw892 kw893 dX10_next_77 (c_X10_in rfl (lo := 0) (by decide) (hi := 8) (by decide)) (by decide) (Nat.le_of_ble_eq_true rfl) ?_
            rintro _ _ ⟨rfl, rfl⟩
            refine R_ifb_eq (pc := 80) 107 dX10_next_80 (by decide) (fun c_80 => ?_) (fun c_80 => ?_)
            · skip
              refine R_iconst (pc := 107) (v := (-1)) dX10_next_107 (by decide) ?_
              refine R_iret (pc := 108) rfl rfl dX10_next_108 ?_
              have hr : z_rs d = 1 := by rw [z_rs, if_pos (Or.inr c_7)]
              have hc : z_cs d = (-1) := by rw [z_cs, if_neg (fun z => z.elim c_26 c_31), if_pos (Or.inl c_40)]
              exact ⟨by rw [z_next, hr, hc, if_neg (fun z => c_80 z.1)], rfl⟩
            · skip
              refine R_iload5 (pc := 83) dX10_next_83 ?_
              refine R_i2l (pc := 85) dX10_next_85 ?_
              refine R_lconst (pc := 86) (v := 0) dX10_next_86 (by decide) ?_
              refine R_ldc2 (pc := 87) dX10_next_87 kw923 ?_
              refine R_callS3 (pc := 90) cal_X10_in kw892 kw893 dX10_next_90 (c_X10_in rfl (lo := 0) (by decide) (hi := 8) (by decide)) (by decide) (Nat.le_of_ble_eq_true rfl) ?_
              rintro _ _ ⟨rfl, rfl⟩
              refine R_ifb_eq (pc := 93) 107 dX10_next_93 (by decide) (fun c_93 => ?_) (fun c_93 => ?_)
              · skip
                refine R_iconst (pc := 107) (v := (-1)) dX10_next_107 (by decide) ?_
                refine R_iret (pc := 108) rfl rfl dX10_next_108 ?_
                have hr : z_rs d = 1 := by rw [z_rs, if_pos (Or.inr c_7)]
                have hc : z_cs d = (-1) := by rw [z_cs, if_neg (fun z => z.elim c_26 c_31), if_pos (Or.inl c_40)]
                exact ⟨by rw [z_next, hr, hc, if_neg (fun z => c_93 z.2)], rfl⟩
              · skip
                refine R_bipush (pc := 96) (v := 9) dX10_next_96 (by decide) ?_
                refine R_iload4 (pc := 98) dX10_next_98 ?_
                refine R_imul (pc := 100) dX10_next_100 ?_
                refine R_iload5 (pc := 101) dX10_next_101 ?_
                refine R_iadd (pc := 103) dX10_next_103 ?_
                refine R_goto (pc := 104) 108 dX10_next_104 (by decide) ?_
                refine R_iret (pc := 108) rfl rfl dX10_next_108 ?_
                have hr : z_rs d = 1 := by rw [z_rs, if_pos (Or.inr c_7)]
                have hc : z_cs d = (-1) := by rw [z_cs, if_neg (fun z => z.elim c_26 c_31), if_pos (Or.inl c_40)]
                exact ⟨by rw [z_next, hr, hc, if_pos ⟨c_80, c_93⟩], rfl⟩
          · skip
            refine R_iload_n1 (pc := 43) dX10_next_43 ?_
            refine R_iconst (pc := 44) (v := 3) dX10_next_44 (by decide) ?_
            refine R_icmp_ne (pc := 45) 52 dX10_next_45 (by decide) (fun c_45 => ?_) (fun c_45 => ?_)
            · skip
              refine R_iconst (pc := 52) (v := 0) dX10_next_52 (by decide) ?_
              refine R_istore_n3 (pc := 53) dX10_next_53 rfl (by decide) ?_
              refine R_iload_n0 (pc := 54) dX10_next_54 ?_
              refine R_bipush (pc := 55) (v := 9) dX10_next_55 (by decide) ?_
              refine R_idiv (pc := 57) dX10_next_57 (by decide) ?_
              refine R_iload_n2 (pc := 58) dX10_next_58 ?_
              refine R_iadd (pc := 59) dX10_next_59 ?_
              refine R_istore4 (pc := 60) dX10_next_60 rfl (by decide) ?_
              refine R_iload_n0 (pc := 62) dX10_next_62 ?_
              refine R_bipush (pc := 63) (v := 9) dX10_next_63 (by decide) ?_
              refine R_irem (pc := 65) dX10_next_65 (by decide) ?_
              refine R_iload_n3 (pc := 66) dX10_next_66 ?_
              refine R_iadd (pc := 67) dX10_next_67 ?_
              refine R_istore5 (pc := 68) dX10_next_68 rfl (by decide) ?_
              refine R_iload4 (pc := 70) dX10_next_70 ?_
              refine R_i2l (pc := 72) dX10_next_72 ?_
              refine R_lconst (pc := 73) (v := 0) dX10_next_73 (by decide) ?_
              refine R_ldc2 (pc := 74) dX10_next_74 kw923 ?_
              refine R_callS3 (pc := 77) cal_X10_in kw892 kw893 dX10_next_77 (c_X10_in rfl (lo := 0) (by decide) (hi := 8) (by decide)) (by decide) (Nat.le_of_ble_eq_true rfl) ?_
              rintro _ _ ⟨rfl, rfl⟩
              refine R_ifb_eq (pc := 80) 107 dX10_next_80 (by decide) (fun c_80 => ?_) (fun c_80 => ?_)
              · skip
                refine R_iconst (pc := 107) (v := (-1)) dX10_next_107 (by decide) ?_
                refine R_iret (pc := 108) rfl rfl dX10_next_108 ?_
                have hr : z_rs d = 1 := by rw [z_rs, if_pos (Or.inr c_7)]
                have hc : z_cs d = 0 := by rw [z_cs, if_neg (fun z => z.elim c_26 c_31), if_neg (fun z => z.elim c_40 c_45)]
                exact ⟨by rw [z_next, hr, hc, if_neg (fun z => c_80 z.1)], rfl⟩
              · skip
                refine R_iload5 (pc := 83) dX10_next_83 ?_
                refine R_i2l (pc := 85) dX10_next_85 ?_
                refine R_lconst (pc := 86) (v := 0) dX10_next_86 (by decide) ?_
                refine R_ldc2 (pc := 87) dX10_next_87 kw923 ?_
                refine R_callS3 (pc := 90) cal_X10_in kw892 kw893 dX10_next_90 (c_X10_in rfl (lo := 0) (by decide) (hi := 8) (by decide)) (by decide) (Nat.le_of_ble_eq_true rfl) ?_
                rintro _ _ ⟨rfl, rfl⟩
                refine R_ifb_eq (pc := 93) 107 dX10_next_93 (by decide) (fun c_93 => ?_) (fun c_93 => ?_)
                · skip
                  refine R_iconst (pc := 107) (v := (-1)) dX10_next_107 (by decide) ?_
                  refine R_iret (pc := 108) rfl rfl dX10_next_108 ?_
                  have hr : z_rs d = 1 := by rw [z_rs, if_pos (Or.inr c_7)]
                  have hc : z_cs d = 0 := by rw [z_cs, if_neg (fun z => z.elim c_26 c_31), if_neg (fun z => z.elim c_40 c_45)]
                  exact ⟨by rw [z_next, hr, hc, if_neg (fun z => c_93 z.2)], rfl⟩
                · skip
                  refine R_bipush (pc := 96) (v := 9) dX10_next_96 (by decide) ?_
                  refine R_iload4 (pc := 98) dX10_next_98 ?_
                  refine R_imul (pc := 100) dX10_next_100 ?_
                  refine R_iload5 (pc := 101) dX10_next_101 ?_
                  refine R_iadd (pc := 103) dX10_next_103 ?_
                  refine R_goto (pc := 104) 108 dX10_next_104 (by decide) ?_
                  refine R_iret (pc := 108) rfl rfl dX10_next_108 ?_
                  have hr : z_rs d = 1 := by rw [z_rs, if_pos (Or.inr c_7)]
                  have hc : z_cs d = 0 := by rw [z_cs, if_neg (fun z => z.elim c_26 c_31), if_neg (fun z => z.elim c_40 c_45)]
                  exact ⟨by rw [z_next, hr, hc, if_pos ⟨c_80, c_93⟩], rfl⟩
            · skip
              refine R_iconst (pc := 48) (v := (-1)) dX10_next_48 (by decide) ?_
              refine R_goto (pc := 49) 53 dX10_next_49 (by decide) ?_
              refine R_istore_n3 (pc := 53) dX10_next_53 rfl (by decide) ?_
              refine R_iload_n0 (pc := 54) dX10_next_54 ?_
              refine R_bipush (pc := 55) (v := 9) dX10_next_55 (by decide) ?_
              refine R_idiv (pc := 57) dX10_next_57 (by decide) ?_
              refine R_iload_n2 (pc := 58) dX10_next_58 ?_
              refine R_iadd (pc := 59) dX10_next_59 ?_
              refine R_istore4 (pc := 60) dX10_next_60 rfl (by decide) ?_
              refine R_iload_n0 (pc := 62) dX10_next_62 ?_
              refine R_bipush (pc := 63) (v := 9) dX10_next_63 (by decide) ?_
              refine R_irem (pc := 65) dX10_next_65 (by decide) ?_
              refine R_iload_n3 (pc := 66) dX10_next_66 ?_
              refine R_iadd (pc := 67) dX10_next_67 ?_
              refine R_istore5 (pc := 68) dX10_next_68 rfl (by decide) ?_
              refine R_iload4 (pc := 70) dX10_next_70 ?_
              refine R_i2l (pc := 72) dX10_next_72 ?_
              refine R_lconst (pc := 73) (v := 0) dX10_next_73 (by decide) ?_
              refine R_ldc2 (pc := 74) dX10_next_74 kw923 ?_
              refine R_callS3 (pc := 77) cal_X10_in kw892 kw893 dX10_next_77 (c_X10_in rfl (lo := 0) (by decide) (hi := 8) (by decide)) (by decide) (Nat.le_of_ble_eq_true rfl) ?_
              rintro _ _ ⟨rfl, rfl⟩
              refine R_ifb_eq (pc := 80) 107 dX10_next_80 (by decide) (fun c_80 => ?_) (fun c_80 => ?_)
              · skip
                refine R_iconst (pc := 107) (v := (-1)) dX10_next_107 (by decide) ?_
                refine R_iret (pc := 108) rfl rfl dX10_next_108 ?_
                have hr : z_rs d = 1 := by rw [z_rs, if_pos (Or.inr c_7)]
                have hc : z_cs d = (-1) := by rw [z_cs, if_neg (fun z => z.elim c_26 c_31), if_pos (Or.inr c_45)]
                exact ⟨by rw [z_next, hr, hc, if_neg (fun z => c_80 z.1)], rfl⟩
              · skip
                refine R_iload5 (pc := 83) dX10_next_83 ?_
                refine R_i2l (pc := 85) dX10_next_85 ?_
                refine R_lconst (pc := 86) (v := 0) dX10_next_86 (by decide) ?_
                refine R_ldc2 (pc := 87) dX10_next_87 kw923 ?_
                refine R_callS3 (pc := 90) cal_X10_in kw892 kw893 dX10_next_90 (c_X10_in rfl (lo := 0) (by decide) (hi := 8) (by decide)) (by decide) (Nat.le_of_ble_eq_true rfl) ?_
                rintro _ _ ⟨rfl, rfl⟩
                refine R_ifb_eq (pc := 93) 107 dX10_next_93 (by decide) (fun c_93 => ?_) (fun c_93 => ?_)
                · skip
                  refine R_iconst (pc := 107) (v := (-1)) dX10_next_107 (by decide) ?_
                  refine R_iret (pc := 108) rfl rfl dX10_next_108 ?_
                  have hr : z_rs d = 1 := by rw [z_rs, if_pos (Or.inr c_7)]
                  have hc : z_cs d = (-1) := by rw [z_cs, if_neg (fun z => z.elim c_26 c_31), if_pos (Or.inr c_45)]
                  exact ⟨by rw [z_next, hr, hc, if_neg (fun z => c_93 z.2)], rfl⟩
                · skip
                  refine R_bipush (pc := 96) (v := 9) dX10_next_96 (by decide) ?_
                  refine R_iload4 (pc := 98) dX10_next_98 ?_
                  refine R_imul (pc := 100) dX10_next_100 ?_
                  refine R_iload5 (pc := 101) dX10_next_101 ?_
                  refine R_iadd (pc := 103) dX10_next_103 ?_
                  refine R_goto (pc := 104) 108 dX10_next_104 (by decide) ?_
                  refine R_iret (pc := 108) rfl rfl dX10_next_108 ?_
                  have hr : z_rs d = 1 := by rw [z_rs, if_pos (Or.inr c_7)]
                  have hc : z_cs d = (-1) := by rw [z_cs, if_neg (fun z => z.elim c_26 c_31), if_pos (Or.inr c_45)]
                  exact ⟨by rw [z_next, hr, hc, if_pos ⟨c_80, c_93⟩], rfl⟩
        · skip
          refine R_iconst (pc := 34) (v := 1) dX10_next_34 (by decide) ?_
          refine R_goto (pc := 35) 53 dX10_next_35 (by decide) ?_
          refine R_istore_n3 (pc := 53) dX10_next_53 rfl (by decide) ?_
          refine R_iload_n0 (pc := 54) dX10_next_54 ?_
          refine R_bipush (pc := 55) (v := 9) dX10_next_55 (by decide) ?_
          refine R_idiv (pc := 57) dX10_next_57 (by decide) ?_
          refine R_iload_n2 (pc := 58) dX10_next_58 ?_
          refine R_iadd (pc := 59) dX10_next_59 ?_
          refine R_istore4 (pc := 60) dX10_next_60 rfl (by decide) ?_
          refine R_iload_n0 (pc := 62) dX10_next_62 ?_
          refine R_bipush (pc := 63) (v := 9) dX10_next_63 (by decide) ?_
          refine R_irem (pc := 65) dX10_next_65 (by decide) ?_
          refine R_iload_n3 (pc := 66) dX10_next_66 ?_
          refine R_iadd (pc := 67) dX10_next_67 ?_
          refine R_istore5 (pc := 68) dX10_next_68 rfl (by decide) ?_
          refine R_iload4 (pc := 70) dX10_next_70 ?_
          refine R_i2l (pc := 72) dX10_next_72 ?_
          refine R_lconst (pc := 73) (v := 0) dX10_next_73 (by decide) ?_
          refine R_ldc2 (pc := 74) dX10_next_74 kw923 ?_
          refine R_callS3 (pc := 77) cal_X10_in kw892 kw893 dX10_next_77 (c_X10_in rfl (lo := 0) (by decide) (hi := 8) (by decide)) (by decide) (Nat.le_of_ble_eq_true rfl) ?_
          rintro _ _ ⟨rfl, rfl⟩
          refine R_ifb_eq (pc := 80) 107 dX10_next_80 (by decide) (fun c_80 => ?_) (fun c_80 => ?_)
          · skip
            refine R_iconst (pc := 107) (v := (-1)) dX10_next_107 (by decide) ?_
            refine R_iret (pc := 108) rfl rfl dX10_next_108 ?_
            have hr : z_rs d = 1 := by rw [z_rs, if_pos (Or.inr c_7)]
            have hc : z_cs d = 1 := by rw [z_cs, if_pos (Or.inr c_31)]
            exact ⟨by rw [z_next, hr, hc, if_neg (fun z => c_80 z.1)], rfl⟩
          · skip
            refine R_iload5 (pc := 83) dX10_next_83 ?_
            refine R_i2l (pc := 85) dX10_next_85 ?_
            refine R_lconst (pc := 86) (v := 0) dX10_next_86 (by decide) ?_
            refine R_ldc2 (pc := 87) dX10_next_87 kw923 ?_
            refine R_callS3 (pc := 90) cal_X10_in kw892 kw893 dX10_next_90 (c_X10_in rfl (lo := 0) (by decide) (hi := 8) (by decide)) (by decide) (Nat.le_of_ble_eq_true rfl) ?_
            rintro _ _ ⟨rfl, rfl⟩
            refine R_ifb_eq (pc := 93) 107 dX10_next_93 (by decide) (fun c_93 => ?_) (fun c_93 => ?_)
            · skip
              refine R_iconst (pc := 107) (v := (-1)) dX10_next_107 (by decide) ?_
              refine R_iret (pc := 108) rfl rfl dX10_next_108 ?_
              have hr : z_rs d = 1 := by rw [z_rs, if_pos (Or.inr c_7)]
              have hc : z_cs d = 1 := by rw [z_cs, if_pos (Or.inr c_31)]
              exact ⟨by rw [z_next, hr, hc, if_neg (fun z => c_93 z.2)], rfl⟩
            · skip
              refine R_bipush (pc := 96) (v := 9) dX10_next_96 (by decide) ?_
              refine R_iload4 (pc := 98) dX10_next_98 ?_
              refine R_imul (pc := 100) dX10_next_100 ?_
              refine R_iload5 (pc := 101) dX10_next_101 ?_
              refine R_iadd (pc := 103) dX10_next_103 ?_
              refine R_goto (pc := 104) 108 dX10_next_104 (by decide) ?_
              refine R_iret (pc := 108) rfl rfl dX10_next_108 ?_
              have hr : z_rs d = 1 := by rw [z_rs, if_pos (Or.inr c_7)]
              have hc : z_cs d = 1 := by rw [z_cs, if_pos (Or.inr c_31)]
              exact ⟨by rw [z_next, hr, hc, if_pos ⟨c_80, c_93⟩], rfl⟩

set_option maxHeartbeats 4000000 in
set_option maxRecDepth 100000 in
theorem L_X10_areBeside {x y : Int32} : ∀ (n i : Nat), i + n = 6 → True → RunM l D cA N0 m_X10_areBeside 2 0 0 (fun r h' => r = some (.int (bI (z_bes x y 6 = true))) ∧ h' = h) h 0 0 4 [some (.int x), some (.int y), some (.int (bI (z_bes x y i = true))), some (.int (nI i))] [] := by
  intro n
  induction n with
  | zero =>
    intro i hin hinv 
    have hie : i = 6 := by omega
    subst hie
    refine R_iload_n3 (pc := 4) dX10_areBeside_4 ?_
    refine R_bipush (pc := 5) (v := 6) dX10_areBeside_5 (by decide) ?_
    refine R_icmp_ge (pc := 7) 35 dX10_areBeside_7 (by decide) (fun c_7 => ?_) (fun c_7 => absurd (by decide) c_7)
    refine R_iload_n2 (pc := 35) dX10_areBeside_35 ?_
    refine R_iret (pc := 36) rfl (nar_z bI_01) dX10_areBeside_36 ?_
    exact ⟨rfl, rfl⟩
  | succ n ih =>
    intro i hin hinv 
    have hlt : i < 6 := by omega
    refine R_iload_n3 (pc := 4) dX10_areBeside_4 ?_
    refine R_bipush (pc := 5) (v := 6) dX10_areBeside_5 (by decide) ?_
    refine R_icmp_ge (pc := 7) 35 dX10_areBeside_7 (by decide) (fun c_7 => absurd c_7 (nI_ge hlt (by decide))) (fun c_7 => ?_)
    refine R_iload_n2 (pc := 10) dX10_areBeside_10 ?_
    refine R_if_ne (pc := 11) 23 dX10_areBeside_11 (by decide) (fun c_11 => ?_) (fun c_11 => ?_)
    · skip
      have c_11 : z_bes x y i = true := Classical.not_not.mp (fun z => c_11 (bI_f z))
      refine R_iconst (pc := 23) (v := 1) dX10_areBeside_23 (by decide) ?_
      refine R_goto (pc := 24) 28 dX10_areBeside_24 (by decide) ?_
      refine R_istore_n2 (pc := 28) dX10_areBeside_28 rfl (by decide) ?_
      refine R_iinc3 (pc := 29) dX10_areBeside_29 rfl (by decide) ?_
      refine R_goto (pc := 32) 4 dX10_areBeside_32 (by decide) ?_
      rw [nI_s]
      refine Run.cast (ih (i + 1) (by omega) trivial) rfl rfl rfl rfl ?_ rfl
      simp only [z_bes, bI, c_7, c_11, Bool.or_true, Bool.true_or, Bool.false_or, Bool.or_false, Bool.not_eq_true, decide_true, decide_false, Bool.or_eq_true, decide_eq_true_eq, reduceCtorEq, if_true, if_false, reduceIte, and_true, true_and, and_false, false_and, and_self, or_true, true_or, or_false, false_or, or_self, not_true, not_false_iff]
    · skip
      have c_11 : ¬ z_bes x y i = true := bI_0.mp c_11
      refine R_iload_n0 (pc := 14) dX10_areBeside_14 ?_
      refine R_iload_n3 (pc := 15) dX10_areBeside_15 ?_
      refine R_callS2 (pc := 16) cal_X10_next kw978 kw979 dX10_areBeside_16 c_X10_next (by decide) (Nat.le_of_ble_eq_true rfl) ?_
      rintro _ _ ⟨rfl, rfl⟩
      refine R_iload_n1 (pc := 19) dX10_areBeside_19 ?_
      refine R_icmp_ne (pc := 20) 27 dX10_areBeside_20 (by decide) (fun c_20 => ?_) (fun c_20 => ?_)
      · skip
        refine R_iconst (pc := 27) (v := 0) dX10_areBeside_27 (by decide) ?_
        refine R_istore_n2 (pc := 28) dX10_areBeside_28 rfl (by decide) ?_
        refine R_iinc3 (pc := 29) dX10_areBeside_29 rfl (by decide) ?_
        refine R_goto (pc := 32) 4 dX10_areBeside_32 (by decide) ?_
        rw [nI_s]
        refine Run.cast (ih (i + 1) (by omega) trivial) rfl rfl rfl rfl ?_ rfl
        simp only [z_bes, bI, c_7, c_11, c_20, Bool.or_true, Bool.true_or, Bool.false_or, Bool.or_false, Bool.not_eq_true, decide_true, decide_false, Bool.or_eq_true, decide_eq_true_eq, reduceCtorEq, if_true, if_false, reduceIte, and_true, true_and, and_false, false_and, and_self, or_true, true_or, or_false, false_or, or_self, not_true, not_false_iff]
      · skip
        refine R_iconst (pc := 23) (v := 1) dX10_areBeside_23 (by decide) ?_
        refine R_goto (pc := 24) 28 dX10_areBeside_24 (by decide) ?_
        refine R_istore_n2 (pc := 28) dX10_areBeside_28 rfl (by decide) ?_
        refine R_iinc3 (pc := 29) dX10_areBeside_29 rfl (by decide) ?_
        refine R_goto (pc := 32) 4 dX10_areBeside_32 (by decide) ?_
        rw [nI_s]
        refine Run.cast (ih (i + 1) (by omega) trivial) rfl rfl rfl rfl ?_ rfl
        simp only [z_bes, bI, c_7, c_11, c_20, Bool.or_true, Bool.true_or, Bool.false_or, Bool.or_false, Bool.not_eq_true, decide_true, decide_false, Bool.or_eq_true, decide_eq_true_eq, reduceCtorEq, if_true, if_false, reduceIte, and_true, true_and, and_false, false_and, and_self, or_true, true_or, or_false, false_or, or_self, not_true, not_false_iff]

set_option maxHeartbeats 4000000 in
set_option maxRecDepth 100000 in
theorem c_X10_areBeside {x y : Int32} : Spec l D cA N0 m_X10_areBeside 2 0 0 [.int x, .int y] h (fun r h' => r = some (.int (bI (z_bes x y 6 = true))) ∧ h' = h) := by
  refine Spec.of (L := [some (.int x), some (.int y), none, none]) (by decide) rfl (Nat.le_of_ble_eq_true rfl) ?_
  refine R_iconst (pc := 0) (v := 0) dX10_areBeside_0 (by decide) ?_
  refine R_istore_n2 (pc := 1) dX10_areBeside_1 rfl (by decide) ?_
  refine R_iconst (pc := 2) (v := 0) dX10_areBeside_2 (by decide) ?_
  refine R_istore_n3 (pc := 3) dX10_areBeside_3 rfl (by decide) ?_
  exact L_X10_areBeside 6 0 (Nat.zero_add 6) trivial

set_option maxHeartbeats 4000000 in
set_option maxRecDepth 100000 in
theorem c_X10_isShip (hM : MAt h u M) {sn : Nat} (hn : sn ≤ 8) (hsn : M.2.1 10 = nI sn) {x : Int32} : Spec l D cA N0 m_X10_isShip 1 0 0 [.ref u, .int x] h (fun r h' => r = some (.int (bI (0 ≤ x ∧ x < nI sn))) ∧ h' = h) := by
  refine Spec.of (L := [some (.ref u), some (.int x)]) (by decide) rfl (Nat.le_of_ble_eq_true rfl) ?_
  have q0 : h = mput h u M := (mput_self hM).symm
  have mo0 := hM.o
  have ms0 := hM.s
  have mb0 := hM.b
  have mt0 := hM.t
  have mn0 := hM.n
  have mc0 := hM.c
  refine R_iload_n1 (pc := 0) dX10_isShip_0 ?_
  refine R_i2l (pc := 1) dX10_isShip_1 ?_
  refine R_lconst (pc := 2) (v := 0) dX10_isShip_2 (by decide) ?_
  refine R_aload_n0 (pc := 3) dX10_isShip_3 ?_
  refine G_X10_7 (pc := 4) dX10_isShip_4 (by assumption) ?_
  refine R_bipush (pc := 7) (v := 10) dX10_isShip_7 (by decide) ?_
  refine R_iald (pc := 9) dX10_isShip_9 (by assumption) (in_n (i := 10) (by decide) (by decide)) ?_
  rw [show ((10 : Int32)).toNatClampNeg = 10 from rfl]
  rw [hsn]
  refine R_iconst (pc := 10) (v := 1) dX10_isShip_10 (by decide) ?_
  refine R_isub (pc := 11) dX10_isShip_11 ?_
  refine R_i2l (pc := 12) dX10_isShip_12 ?_
  refine R_callS3 (pc := 13) cal_X10_in kw892 kw893 dX10_isShip_13 (c_X10_in rfl (lo := 0) (by decide) (hi := nI sn - 1) rfl) (by decide) (Nat.le_of_ble_eq_true rfl) ?_
  rintro _ _ ⟨rfl, rfl⟩
  have hle : x ≤ nI sn - 1 ↔ x < nI sn := by
    rcases (by omega : sn = 0 ∨ sn = 1 ∨ sn = 2 ∨ sn = 3 ∨ sn = 4 ∨ sn = 5 ∨ sn = 6 ∨ sn = 7 ∨ sn = 8) with z | z | z | z | z | z | z | z | z <;> subst z <;> (rw [Int32.le_iff_toInt_le, Int32.lt_iff_toInt_lt]; simp only [nI]; exact Int.lt_add_one_iff.symm)
  refine R_iret (pc := 16) rfl (nar_z bI_01) dX10_isShip_16 ?_
  exact ⟨by simp only [hle], rfl⟩

set_option maxHeartbeats 4000000 in
set_option maxRecDepth 100000 in
theorem c_X10_floats (hM : MAt h u M) {i : Nat} (hi : i < 8) : Spec l D cA N0 m_X10_floats 1 0 0 [.ref u, .int (nI i)] h (fun r h' => r = some (.int (bI (0 ≤ gx M.2.1 i 1))) ∧ h' = h) := by
  refine Spec.of (L := [some (.ref u), some (.int (nI i))]) (by decide) rfl (Nat.le_of_ble_eq_true rfl) ?_
  have q0 : h = mput h u M := (mput_self hM).symm
  have mo0 := hM.o
  have ms0 := hM.s
  have mb0 := hM.b
  have mt0 := hM.t
  have mn0 := hM.n
  have mc0 := hM.c
  refine R_aload_n0 (pc := 0) dX10_floats_0 ?_
  refine R_iload_n1 (pc := 1) dX10_floats_1 ?_
  refine R_iconst (pc := 2) (v := 1) dX10_floats_2 (by decide) ?_
  refine R_callV2 (pc := 3) (T := TX10) cal_X10_get kw899 kw901 kw25 dX10_floats_3 (c_X10_get hM (by assumption) (k := 1) (by decide)) (by decide) (Nat.le_of_ble_eq_true rfl) (ci := 8) rfl (by assumption) ?_
  rintro _ _ ⟨rfl, rfl⟩
  refine R_if_lt (pc := 6) 13 dX10_floats_6 (by decide) (fun c_6 => ?_) (fun c_6 => ?_)
  · skip
    have d_6 := Int32.not_le.mpr c_6
    refine R_iconst (pc := 13) (v := 0) dX10_floats_13 (by decide) ?_
    refine R_iret (pc := 14) rfl rfl dX10_floats_14 ?_
    exact ⟨congrArg (fun z => some (Value.int z)) (by simp (decide := true) only [bI, c_6, d_6, reduceCtorEq, if_true, if_false, reduceIte, and_true, true_and, and_false, false_and, and_self, or_true, true_or, or_false, false_or, or_self, not_true, not_false_iff]), rfl⟩
  · skip
    have d_6 := Int32.not_lt.mp c_6
    refine R_iconst (pc := 9) (v := 1) dX10_floats_9 (by decide) ?_
    refine R_goto (pc := 10) 14 dX10_floats_10 (by decide) ?_
    refine R_iret (pc := 14) rfl rfl dX10_floats_14 ?_
    exact ⟨congrArg (fun z => some (Value.int z)) (by simp (decide := true) only [bI, c_6, d_6, reduceCtorEq, if_true, if_false, reduceIte, and_true, true_and, and_false, false_and, and_self, or_true, true_or, or_false, false_or, or_self, not_true, not_false_iff]), rfl⟩

set_option maxHeartbeats 4000000 in
set_option maxRecDepth 100000 in
theorem L_X10_shipOn (hM : MAt h u M) {sn : Nat} (hn : sn ≤ 8) (hsn : M.2.1 10 = nI sn) {x : Int32} : ∀ (n i : Nat), i + n = sn → True → RunM l D cA N0 m_X10_shipOn 1 0 0 (fun r h' => r = some (.int (z_onv (ff (fun i => decide (gx M.2.1 i 1 = x)) i (sn - i)))) ∧ h' = h) h 0 0 2 [some (.ref u), some (.int x), some (.int (nI i))] [] := by
  intro n
  induction n with
  | zero =>
    intro i hin hinv 
    have hie : i = sn := by omega
    subst hie
    have q0 : h = mput h u M := (mput_self hM).symm
    have mo0 := hM.o
    have ms0 := hM.s
    have mb0 := hM.b
    have mt0 := hM.t
    have mn0 := hM.n
    have mc0 := hM.c
    refine R_iload_n2 (pc := 2) dX10_shipOn_2 ?_
    refine R_aload_n0 (pc := 3) dX10_shipOn_3 ?_
    refine G_X10_7 (pc := 4) dX10_shipOn_4 (by assumption) ?_
    refine R_bipush (pc := 7) (v := 10) dX10_shipOn_7 (by decide) ?_
    refine R_iald (pc := 9) dX10_shipOn_9 (by assumption) (in_n (i := 10) (by decide) (by decide)) ?_
    rw [show ((10 : Int32)).toNatClampNeg = 10 from rfl]
    rw [hsn]
    refine R_icmp_ge (pc := 10) 31 dX10_shipOn_10 (by decide) (fun c_10 => ?_) (fun c_10 => absurd (Int32.le_refl _) c_10)
    refine R_iconst (pc := 31) (v := (-1)) dX10_shipOn_31 (by decide) ?_
    refine R_iret (pc := 32) rfl rfl dX10_shipOn_32 ?_
    exact ⟨by rw [Nat.sub_self]; rfl, rfl⟩
  | succ n ih =>
    intro i hin hinv 
    have hlt : i < sn := by omega
    have q0 : h = mput h u M := (mput_self hM).symm
    have mo0 := hM.o
    have ms0 := hM.s
    have mb0 := hM.b
    have mt0 := hM.t
    have mn0 := hM.n
    have mc0 := hM.c
    refine R_iload_n2 (pc := 2) dX10_shipOn_2 ?_
    refine R_aload_n0 (pc := 3) dX10_shipOn_3 ?_
    refine G_X10_7 (pc := 4) dX10_shipOn_4 (by assumption) ?_
    refine R_bipush (pc := 7) (v := 10) dX10_shipOn_7 (by decide) ?_
    refine R_iald (pc := 9) dX10_shipOn_9 (by assumption) (in_n (i := 10) (by decide) (by decide)) ?_
    rw [show ((10 : Int32)).toNatClampNeg = 10 from rfl]
    rw [hsn]
    refine R_icmp_ge (pc := 10) 31 dX10_shipOn_10 (by decide) (fun c_10 => absurd c_10 (nI_ge hlt (by omega))) (fun c_10 => ?_)
    refine R_aload_n0 (pc := 13) dX10_shipOn_13 ?_
    refine R_iload_n2 (pc := 14) dX10_shipOn_14 ?_
    refine R_iconst (pc := 15) (v := 1) dX10_shipOn_15 (by decide) ?_
    refine R_callV2 (pc := 16) (T := TX10) cal_X10_get kw899 kw901 kw25 dX10_shipOn_16 (c_X10_get hM (show i < 8 by omega) (k := 1) (by decide)) (by decide) (Nat.le_of_ble_eq_true rfl) (ci := 8) rfl (by assumption) ?_
    rintro _ _ ⟨rfl, rfl⟩
    refine R_iload_n1 (pc := 19) dX10_shipOn_19 ?_
    refine R_icmp_ne (pc := 20) 25 dX10_shipOn_20 (by decide) (fun c_20 => ?_) (fun c_20 => ?_)
    · skip
      refine R_iinc2 (pc := 25) dX10_shipOn_25 rfl (by decide) ?_
      refine R_goto (pc := 28) 2 dX10_shipOn_28 (by decide) ?_
      rw [nI_s]
      obtain ⟨k, hk⟩ : ∃ k, sn - i = k + 1 := ⟨sn - i - 1, by omega⟩
      rw [hk, ff_s, if_neg (by simp only [decide_eq_true_eq]; exact c_20), show k = sn - (i + 1) by omega]
      exact ih (i + 1) (by omega) trivial
    · skip
      refine R_iload_n2 (pc := 23) dX10_shipOn_23 ?_
      refine R_iret (pc := 24) rfl rfl dX10_shipOn_24 ?_
      obtain ⟨k, hk⟩ : ∃ k, sn - i = k + 1 := ⟨sn - i - 1, by omega⟩
      exact ⟨by rw [hk, ff_s]; simp (decide := true) only [z_onv, c_10, c_20, decide_true, decide_eq_true_eq, reduceCtorEq, if_true, if_false, reduceIte, and_true, true_and, and_false, false_and, and_self, or_true, true_or, or_false, false_or, or_self, not_true, not_false_iff], rfl⟩

set_option maxHeartbeats 4000000 in
set_option maxRecDepth 100000 in
theorem c_X10_shipOn (hM : MAt h u M) {sn : Nat} (hn : sn ≤ 8) (hsn : M.2.1 10 = nI sn) {x : Int32} : Spec l D cA N0 m_X10_shipOn 1 0 0 [.ref u, .int x] h (fun r h' => r = some (.int (z_onv (z_on M.2.1 sn x))) ∧ h' = h) := by
  refine Spec.of (L := [some (.ref u), some (.int x), none]) (by decide) rfl (Nat.le_of_ble_eq_true rfl) ?_
  have q0 : h = mput h u M := (mput_self hM).symm
  have mo0 := hM.o
  have ms0 := hM.s
  have mb0 := hM.b
  have mt0 := hM.t
  have mn0 := hM.n
  have mc0 := hM.c
  refine R_iconst (pc := 0) (v := 0) dX10_shipOn_0 (by decide) ?_
  refine R_istore_n2 (pc := 1) dX10_shipOn_1 rfl (by decide) ?_
  exact L_X10_shipOn hM hn hsn sn 0 (Nat.zero_add sn) trivial

set_option maxHeartbeats 4000000 in
set_option maxRecDepth 100000 in
theorem c_X10_isFree (hM : MAt h u M) {sn : Nat} (hn : sn ≤ 8) (hsn : M.2.1 10 = nI sn) {x : Nat} (hx : x < 81) : Spec l D cA N0 m_X10_isFree 2 0 0 [.ref u, .int (nI x)] h (fun r h' => r = some (.int (bI (z_free M.2.1 sn x = true))) ∧ h' = h) := by
  refine Spec.of (L := [some (.ref u), some (.int (nI x))]) (by decide) rfl (Nat.le_of_ble_eq_true rfl) ?_
  have q0 : h = mput h u M := (mput_self hM).symm
  have mo0 := hM.o
  have ms0 := hM.s
  have mb0 := hM.b
  have mt0 := hM.t
  have mn0 := hM.n
  have mc0 := hM.c
  refine R_aload_n0 (pc := 0) dX10_isFree_0 ?_
  refine G_X10_7 (pc := 1) dX10_isFree_1 (by assumption) ?_
  refine R_bipush (pc := 4) (v := 12) dX10_isFree_4 (by decide) ?_
  refine R_iload_n1 (pc := 6) dX10_isFree_6 ?_
  refine R_iadd (pc := 7) dX10_isFree_7 ?_
  rw [h12]
  refine R_iald (pc := 8) dX10_isFree_8 (by assumption) (in_n (show 12 + x < 545 by omega) (by decide)) ?_
  rw [nI_clamp (show 12 + x < 2 ^ 31 by omega)]
  refine R_if_ne (pc := 9) 24 dX10_isFree_9 (by decide) (fun c_9 => ?_) (fun c_9 => ?_)
  · skip
    refine R_iconst (pc := 24) (v := 0) dX10_isFree_24 (by decide) ?_
    refine R_iret (pc := 25) rfl rfl dX10_isFree_25 ?_
    exact ⟨congrArg (fun z => some (Value.int z)) (by simp (decide := true) only [bI, z_free, decide_eq_true_eq, c_9, reduceCtorEq, if_true, if_false, reduceIte, and_true, true_and, and_false, false_and, and_self, or_true, true_or, or_false, false_or, or_self, not_true, not_false_iff]), rfl⟩
  · skip
    refine R_aload_n0 (pc := 12) dX10_isFree_12 ?_
    refine R_iload_n1 (pc := 13) dX10_isFree_13 ?_
    refine R_callV1 (pc := 14) (T := TX10) cal_X10_shipOn kw895 kw897 kw24 dX10_isFree_14 (c_X10_shipOn hM hn hsn) (by decide) (Nat.le_of_ble_eq_true rfl) (ci := 8) rfl (by assumption) ?_
    rintro _ _ ⟨rfl, rfl⟩
    refine R_if_ge (pc := 17) 24 dX10_isFree_17 (by decide) (fun c_17 => ?_) (fun c_17 => ?_)
    · skip
      have d_17 := Int32.not_lt.mpr c_17
      refine R_iconst (pc := 24) (v := 0) dX10_isFree_24 (by decide) ?_
      refine R_iret (pc := 25) rfl rfl dX10_isFree_25 ?_
      exact ⟨congrArg (fun z => some (Value.int z)) (by simp (decide := true) only [bI, z_free, decide_eq_true_eq, c_9, c_17, d_17, reduceCtorEq, if_true, if_false, reduceIte, and_true, true_and, and_false, false_and, and_self, or_true, true_or, or_false, false_or, or_self, not_true, not_false_iff]), rfl⟩
    · skip
      have d_17 := Int32.not_le.mp c_17
      refine R_iconst (pc := 20) (v := 1) dX10_isFree_20 (by decide) ?_
      refine R_goto (pc := 21) 25 dX10_isFree_21 (by decide) ?_
      refine R_iret (pc := 25) rfl rfl dX10_isFree_25 ?_
      exact ⟨congrArg (fun z => some (Value.int z)) (by simp (decide := true) only [bI, z_free, decide_eq_true_eq, c_9, c_17, d_17, reduceCtorEq, if_true, if_false, reduceIte, and_true, true_and, and_false, false_and, and_self, or_true, true_or, or_false, false_or, or_self, not_true, not_false_iff]), rfl⟩

set_option maxHeartbeats 4000000 in
set_option maxRecDepth 100000 in
theorem L_X10_islands (hM : MAt h u M)  : ∀ (n i : Nat), i + n = 81 → True → ∀ a : Int32, RunM l D cA N0 m_X10_islands 1 0 0 (fun r h' => r = some (.int (kf (fun a j => a + M.2.1 (12 + j)) a i n)) ∧ h' = h) h 0 0 4 [some (.ref u), some (.int a), some (.int (nI i))] [] := by
  intro n
  induction n with
  | zero =>
    intro i hin hinv a
    have hie : i = 81 := by omega
    subst hie
    have q0 : h = mput h u M := (mput_self hM).symm
    have mo0 := hM.o
    have ms0 := hM.s
    have mb0 := hM.b
    have mt0 := hM.t
    have mn0 := hM.n
    have mc0 := hM.c
    refine R_iload_n2 (pc := 4) dX10_islands_4 ?_
    refine R_bipush (pc := 5) (v := 81) dX10_islands_5 (by decide) ?_
    refine R_icmp_ge (pc := 7) 28 dX10_islands_7 (by decide) (fun c_7 => ?_) (fun c_7 => absurd (by decide) c_7)
    refine R_iload_n1 (pc := 28) dX10_islands_28 ?_
    refine R_iret (pc := 29) rfl rfl dX10_islands_29 ?_
    exact ⟨rfl, rfl⟩
  | succ n ih =>
    intro i hin hinv a
    have hlt : i < 81 := by omega
    have q0 : h = mput h u M := (mput_self hM).symm
    have mo0 := hM.o
    have ms0 := hM.s
    have mb0 := hM.b
    have mt0 := hM.t
    have mn0 := hM.n
    have mc0 := hM.c
    refine R_iload_n2 (pc := 4) dX10_islands_4 ?_
    refine R_bipush (pc := 5) (v := 81) dX10_islands_5 (by decide) ?_
    refine R_icmp_ge (pc := 7) 28 dX10_islands_7 (by decide) (fun c_7 => absurd c_7 (nI_ge hlt (by decide))) (fun c_7 => ?_)
    refine R_iload_n1 (pc := 10) dX10_islands_10 ?_
    refine R_aload_n0 (pc := 11) dX10_islands_11 ?_
    refine G_X10_7 (pc := 12) dX10_islands_12 (by assumption) ?_
    refine R_bipush (pc := 15) (v := 12) dX10_islands_15 (by decide) ?_
    refine R_iload_n2 (pc := 17) dX10_islands_17 ?_
    refine R_iadd (pc := 18) dX10_islands_18 ?_
    rw [h12]
    refine R_iald (pc := 19) dX10_islands_19 (by assumption) (in_n (show 12 + i < 545 by omega) (by decide)) ?_
    rw [nI_clamp (show 12 + i < 2 ^ 31 by omega)]
    refine R_iadd (pc := 20) dX10_islands_20 ?_
    refine R_istore_n1 (pc := 21) dX10_islands_21 rfl (by decide) ?_
    refine R_iinc2 (pc := 22) dX10_islands_22 rfl (by decide) ?_
    refine R_goto (pc := 25) 4 dX10_islands_25 (by decide) ?_
    rw [nI_s]
    rw [kf_s]
    exact ih (i + 1) (by omega) trivial _

set_option maxHeartbeats 4000000 in
set_option maxRecDepth 100000 in
theorem c_X10_islands (hM : MAt h u M)  : Spec l D cA N0 m_X10_islands 1 0 0 [.ref u] h (fun r h' => r = some (.int (z_isls M.2.1)) ∧ h' = h) := by
  refine Spec.of (L := [some (.ref u), none, none]) (by decide) rfl (Nat.le_of_ble_eq_true rfl) ?_
  have q0 : h = mput h u M := (mput_self hM).symm
  have mo0 := hM.o
  have ms0 := hM.s
  have mb0 := hM.b
  have mt0 := hM.t
  have mn0 := hM.n
  have mc0 := hM.c
  refine R_iconst (pc := 0) (v := 0) dX10_islands_0 (by decide) ?_
  refine R_istore_n1 (pc := 1) dX10_islands_1 rfl (by decide) ?_
  refine R_iconst (pc := 2) (v := 0) dX10_islands_2 (by decide) ?_
  refine R_istore_n2 (pc := 3) dX10_islands_3 rfl (by decide) ?_
  exact L_X10_islands hM 81 0 (Nat.zero_add 81) trivial 0

end LV23
