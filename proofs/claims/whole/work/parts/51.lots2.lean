/-! lots, the public call -/
set_option maxRecDepth 20000 in
set_option maxHeartbeats 4000000 in
theorem p_lots {w : Hp} {d : Nat} {n : Int} {seed : Int} (hI : Inv w) : WP SH (d + 9) 115 0 [some (vR 0), some (vI n), some (vI seed), none, none] [] w (fun v0 w1 => ∃ a, v0 = some (vI a) ∧ w1 (-2) = w (-2) ∧ WP SH (d + 9) 223 0 [some (vR 100), some (vI n), some (vI seed), none, none, none, none, none] [] w1 (fun v2 w2 => v2 = some (vI a) ∧ w2 (-2) = w1 (-2) ∧ Inv w2)) := by
  obtain ⟨hT, hRO, hIF, hITo, hIR, hIT, hIL, hIK⟩ := id hI
  obtain ⟨hn25, b11, b12, b10, hn6, hem, m0, m1, m2, m23, hyr, hdd, hpre⟩ := hI.base
  have hmm : w 100 11 * w 100 12 = w 3 0 * w 3 1 := by rw [b11, b12]
  refine wp_iload_n (pc' := 1) rfl rfl rfl ?_
  refine wp_iconst (a := 1) (pc' := 2) rfl rfl rfl ?_
  refine wp_icmp_lt (pc' := 5) (pt := 23) rfl rfl rfl (fun q_1 => ?_) (fun q_1 => ?_)
  · skip
    refine wp_iconst (a := -1) (pc' := 24) rfl rfl rfl ?_
    refine wp_ret rfl rfl rfl ?_
    refine ⟨_, rfl, ?_, ?_⟩
    · rfl
    refine wp_aload_n (pc' := 1) rfl rfl rfl (by decide) ?_
    refine wp_iload_n (pc' := 2) rfl rfl rfl ?_
    refine wp_iconst (a := 1) (pc' := 3) rfl rfl rfl ?_
    refine wp_bipush (a := 20) (pc' := 5) rfl rfl rfl ?_
    refine wp_call (pc' := 8) rfl rfl rfl rfl rfl ⟨Nat.le_of_ble_eq_true rfl, Nat.le_of_ble_eq_true rfl, Nat.le_of_ble_eq_true rfl, Nat.le_of_ble_eq_true rfl, Nat.le_of_ble_eq_true rfl⟩ rfl (c_Mod_in) ?_
    rintro v1 w9 ⟨hw9, ⟨hv1, hin⟩ | ⟨hv1, hin⟩⟩
    · skip
      rw [hv1, hw9]
      clear hv1 hw9 v1 w9
      dsimp only [Option.toList, List.cons_append, List.nil_append, List.append_nil]
      refine wp_if_eq (pc' := 11) (pt := 26) rfl rfl rfl (fun q_52 => absurd q_52 (by decide)) (fun q_52 => ?_)
      refine wp_iload_n (pc' := 12) rfl rfl rfl ?_
      refine wp_iconst (a := 1) (pc' := 13) rfl rfl rfl ?_
      refine wp_ldc_w (a := 2147483646) (pc' := 16) rfl rfl rfl ?_
      refine wp_call (pc' := 19) rfl rfl rfl rfl rfl ⟨Nat.le_of_ble_eq_true rfl, Nat.le_of_ble_eq_true rfl, Nat.le_of_ble_eq_true rfl, Nat.le_of_ble_eq_true rfl, Nat.le_of_ble_eq_true rfl⟩ rfl (c_Mod_in) ?_
      rintro v1 w9 ⟨hw9, ⟨hv1, hin⟩ | ⟨hv1, hin⟩⟩
      · skip
        rw [hv1, hw9]
        clear hv1 hw9 v1 w9
        dsimp only [Option.toList, List.cons_append, List.nil_append, List.append_nil]
        refine wp_if_eq (pc' := 22) (pt := 26) rfl rfl rfl (fun q_53 => absurd q_53 (by decide)) (fun q_53 => ?_)
        refine wp_iconst (a := 1) (pc' := 23) rfl rfl rfl ?_
        refine wp_goto (pc' := 27) rfl rfl ?_
        refine wp_call (pc' := 30) rfl rfl rfl rfl rfl ⟨Nat.le_of_ble_eq_true rfl, Nat.le_of_ble_eq_true rfl, Nat.le_of_ble_eq_true rfl, Nat.le_of_ble_eq_true rfl, Nat.le_of_ble_eq_true rfl⟩ rfl (c_Mod_need (by decide)) ?_
        rintro v1 w9 ⟨hw9, ⟨hv1, hg1⟩ | ⟨hv1, hg1, hg2⟩ | ⟨hv1, hg1, hg2⟩⟩
        · skip
          rw [hv1, hw9]
          clear hv1 hw9 v1 w9
          dsimp only [Option.toList, List.cons_append, List.nil_append, List.append_nil]
          refine wp_istore_n (pc' := 31) rfl rfl (Nat.le_of_ble_eq_true rfl) rfl ?_
          dsimp only [lset, lset2, List.set, List.getElem?_cons_zero, List.getElem?_cons_succ]
          refine wp_iload_n (pc' := 32) rfl rfl rfl ?_
          refine wp_if_ge (pc' := 35) (pt := 37) rfl rfl rfl (fun q_54 => absurd q_54 (by decide)) (fun q_54 => ?_)
          refine wp_iload_n (pc' := 36) rfl rfl rfl ?_
          refine wp_ret rfl rfl rfl ?_
          first
          | (exfalso; omega)
          | exact ⟨rfl, rfl, hI⟩
        · skip
          rw [hv1, hw9]
          clear hv1 hw9 v1 w9
          dsimp only [Option.toList, List.cons_append, List.nil_append, List.append_nil]
          refine wp_istore_n (pc' := 31) rfl rfl (Nat.le_of_ble_eq_true rfl) rfl ?_
          dsimp only [lset, lset2, List.set, List.getElem?_cons_zero, List.getElem?_cons_succ]
          refine wp_iload_n (pc' := 32) rfl rfl rfl ?_
          refine wp_if_ge (pc' := 35) (pt := 37) rfl rfl rfl (fun q_55 => absurd q_55 (by decide)) (fun q_55 => ?_)
          refine wp_iload_n (pc' := 36) rfl rfl rfl ?_
          refine wp_ret rfl rfl rfl ?_
          first
          | (exfalso; omega)
          | exact ⟨rfl, rfl, hI⟩
        · skip
          rw [hv1, hw9]
          clear hv1 hw9 v1 w9
          dsimp only [Option.toList, List.cons_append, List.nil_append, List.append_nil]
          refine wp_istore_n (pc' := 31) rfl rfl (Nat.le_of_ble_eq_true rfl) rfl ?_
          dsimp only [lset, lset2, List.set, List.getElem?_cons_zero, List.getElem?_cons_succ]
          refine wp_iload_n (pc' := 32) rfl rfl rfl ?_
          refine wp_if_ge (pc' := 35) (pt := 37) rfl rfl rfl (fun q_56 => ?_) (fun q_56 => absurd (by decide) q_56)
          refine wp_aload_n (pc' := 38) rfl rfl rfl (by decide) ?_
          refine wp_getI (ci := 10) (k0 := 23) (pc' := 41) rfl rfl (by decide) (by first | assumption | rfl) ?_
          refine wp_iload_n (pc' := 42) rfl rfl rfl ?_
          refine wp_iadd (pc' := 43) rfl rfl (by first | exact w32_id (by omega) (by omega) | rfl) ?_
          refine wp_bipush (a := 40) (pc' := 45) rfl rfl rfl ?_
          refine wp_icmp_le (pc' := 48) (pt := 51) rfl rfl rfl (fun q_57 => ?_) (fun q_57 => ?_)
          · skip
            exfalso; omega
          · skip
            refine wp_bipush (a := -2) (pc' := 50) rfl rfl rfl ?_
            refine wp_ret rfl rfl rfl ?_
            first
            | (exfalso; omega)
            | exact ⟨rfl, rfl, hI⟩
      · skip
        rw [hv1, hw9]
        clear hv1 hw9 v1 w9
        dsimp only [Option.toList, List.cons_append, List.nil_append, List.append_nil]
        refine wp_if_eq (pc' := 22) (pt := 26) rfl rfl rfl (fun q_58 => ?_) (fun q_58 => absurd (by decide) q_58)
        refine wp_iconst (a := 0) (pc' := 27) rfl rfl rfl ?_
        refine wp_call (pc' := 30) rfl rfl rfl rfl rfl ⟨Nat.le_of_ble_eq_true rfl, Nat.le_of_ble_eq_true rfl, Nat.le_of_ble_eq_true rfl, Nat.le_of_ble_eq_true rfl, Nat.le_of_ble_eq_true rfl⟩ rfl (c_Mod_need (by decide)) ?_
        rintro v1 w9 ⟨hw9, ⟨hv1, hg1⟩ | ⟨hv1, hg1, hg2⟩ | ⟨hv1, hg1, hg2⟩⟩
        · skip
          rw [hv1, hw9]
          clear hv1 hw9 v1 w9
          dsimp only [Option.toList, List.cons_append, List.nil_append, List.append_nil]
          refine wp_istore_n (pc' := 31) rfl rfl (Nat.le_of_ble_eq_true rfl) rfl ?_
          dsimp only [lset, lset2, List.set, List.getElem?_cons_zero, List.getElem?_cons_succ]
          refine wp_iload_n (pc' := 32) rfl rfl rfl ?_
          refine wp_if_ge (pc' := 35) (pt := 37) rfl rfl rfl (fun q_59 => absurd q_59 (by decide)) (fun q_59 => ?_)
          refine wp_iload_n (pc' := 36) rfl rfl rfl ?_
          refine wp_ret rfl rfl rfl ?_
          first
          | (exfalso; omega)
          | exact ⟨rfl, rfl, hI⟩
        · skip
          rw [hv1, hw9]
          clear hv1 hw9 v1 w9
          dsimp only [Option.toList, List.cons_append, List.nil_append, List.append_nil]
          refine wp_istore_n (pc' := 31) rfl rfl (Nat.le_of_ble_eq_true rfl) rfl ?_
          dsimp only [lset, lset2, List.set, List.getElem?_cons_zero, List.getElem?_cons_succ]
          refine wp_iload_n (pc' := 32) rfl rfl rfl ?_
          refine wp_if_ge (pc' := 35) (pt := 37) rfl rfl rfl (fun q_60 => absurd q_60 (by decide)) (fun q_60 => ?_)
          refine wp_iload_n (pc' := 36) rfl rfl rfl ?_
          refine wp_ret rfl rfl rfl ?_
          first
          | (exfalso; omega)
          | exact ⟨rfl, rfl, hI⟩
        · skip
          rw [hv1, hw9]
          clear hv1 hw9 v1 w9
          dsimp only [Option.toList, List.cons_append, List.nil_append, List.append_nil]
          refine wp_istore_n (pc' := 31) rfl rfl (Nat.le_of_ble_eq_true rfl) rfl ?_
          dsimp only [lset, lset2, List.set, List.getElem?_cons_zero, List.getElem?_cons_succ]
          refine wp_iload_n (pc' := 32) rfl rfl rfl ?_
          refine wp_if_ge (pc' := 35) (pt := 37) rfl rfl rfl (fun q_61 => ?_) (fun q_61 => absurd (by decide) q_61)
          refine wp_aload_n (pc' := 38) rfl rfl rfl (by decide) ?_
          refine wp_getI (ci := 10) (k0 := 23) (pc' := 41) rfl rfl (by decide) (by first | assumption | rfl) ?_
          refine wp_iload_n (pc' := 42) rfl rfl rfl ?_
          refine wp_iadd (pc' := 43) rfl rfl (by first | exact w32_id (by omega) (by omega) | rfl) ?_
          refine wp_bipush (a := 40) (pc' := 45) rfl rfl rfl ?_
          refine wp_icmp_le (pc' := 48) (pt := 51) rfl rfl rfl (fun q_62 => ?_) (fun q_62 => ?_)
          · skip
            exfalso; omega
          · skip
            refine wp_bipush (a := -2) (pc' := 50) rfl rfl rfl ?_
            refine wp_ret rfl rfl rfl ?_
            first
            | (exfalso; omega)
            | exact ⟨rfl, rfl, hI⟩
    · skip
      rw [hv1, hw9]
      clear hv1 hw9 v1 w9
      dsimp only [Option.toList, List.cons_append, List.nil_append, List.append_nil]
      refine wp_if_eq (pc' := 11) (pt := 26) rfl rfl rfl (fun q_63 => ?_) (fun q_63 => absurd (by decide) q_63)
      refine wp_iconst (a := 0) (pc' := 27) rfl rfl rfl ?_
      refine wp_call (pc' := 30) rfl rfl rfl rfl rfl ⟨Nat.le_of_ble_eq_true rfl, Nat.le_of_ble_eq_true rfl, Nat.le_of_ble_eq_true rfl, Nat.le_of_ble_eq_true rfl, Nat.le_of_ble_eq_true rfl⟩ rfl (c_Mod_need (by decide)) ?_
      rintro v1 w9 ⟨hw9, ⟨hv1, hg1⟩ | ⟨hv1, hg1, hg2⟩ | ⟨hv1, hg1, hg2⟩⟩
      · skip
        rw [hv1, hw9]
        clear hv1 hw9 v1 w9
        dsimp only [Option.toList, List.cons_append, List.nil_append, List.append_nil]
        refine wp_istore_n (pc' := 31) rfl rfl (Nat.le_of_ble_eq_true rfl) rfl ?_
        dsimp only [lset, lset2, List.set, List.getElem?_cons_zero, List.getElem?_cons_succ]
        refine wp_iload_n (pc' := 32) rfl rfl rfl ?_
        refine wp_if_ge (pc' := 35) (pt := 37) rfl rfl rfl (fun q_64 => absurd q_64 (by decide)) (fun q_64 => ?_)
        refine wp_iload_n (pc' := 36) rfl rfl rfl ?_
        refine wp_ret rfl rfl rfl ?_
        first
        | (exfalso; omega)
        | exact ⟨rfl, rfl, hI⟩
      · skip
        rw [hv1, hw9]
        clear hv1 hw9 v1 w9
        dsimp only [Option.toList, List.cons_append, List.nil_append, List.append_nil]
        refine wp_istore_n (pc' := 31) rfl rfl (Nat.le_of_ble_eq_true rfl) rfl ?_
        dsimp only [lset, lset2, List.set, List.getElem?_cons_zero, List.getElem?_cons_succ]
        refine wp_iload_n (pc' := 32) rfl rfl rfl ?_
        refine wp_if_ge (pc' := 35) (pt := 37) rfl rfl rfl (fun q_65 => absurd q_65 (by decide)) (fun q_65 => ?_)
        refine wp_iload_n (pc' := 36) rfl rfl rfl ?_
        refine wp_ret rfl rfl rfl ?_
        first
        | (exfalso; omega)
        | exact ⟨rfl, rfl, hI⟩
      · skip
        rw [hv1, hw9]
        clear hv1 hw9 v1 w9
        dsimp only [Option.toList, List.cons_append, List.nil_append, List.append_nil]
        refine wp_istore_n (pc' := 31) rfl rfl (Nat.le_of_ble_eq_true rfl) rfl ?_
        dsimp only [lset, lset2, List.set, List.getElem?_cons_zero, List.getElem?_cons_succ]
        refine wp_iload_n (pc' := 32) rfl rfl rfl ?_
        refine wp_if_ge (pc' := 35) (pt := 37) rfl rfl rfl (fun q_66 => ?_) (fun q_66 => absurd (by decide) q_66)
        refine wp_aload_n (pc' := 38) rfl rfl rfl (by decide) ?_
        refine wp_getI (ci := 10) (k0 := 23) (pc' := 41) rfl rfl (by decide) (by first | assumption | rfl) ?_
        refine wp_iload_n (pc' := 42) rfl rfl rfl ?_
        refine wp_iadd (pc' := 43) rfl rfl (by first | exact w32_id (by omega) (by omega) | rfl) ?_
        refine wp_bipush (a := 40) (pc' := 45) rfl rfl rfl ?_
        refine wp_icmp_le (pc' := 48) (pt := 51) rfl rfl rfl (fun q_67 => ?_) (fun q_67 => ?_)
        · skip
          exfalso; omega
        · skip
          refine wp_bipush (a := -2) (pc' := 50) rfl rfl rfl ?_
          refine wp_ret rfl rfl rfl ?_
          first
          | (exfalso; omega)
          | exact ⟨rfl, rfl, hI⟩
  · skip
    refine wp_iload_n (pc' := 6) rfl rfl rfl ?_
    refine wp_bipush (a := 20) (pc' := 8) rfl rfl rfl ?_
    refine wp_icmp_gt (pc' := 11) (pt := 23) rfl rfl rfl (fun q_68 => ?_) (fun q_68 => ?_)
    · skip
      refine wp_iconst (a := -1) (pc' := 24) rfl rfl rfl ?_
      refine wp_ret rfl rfl rfl ?_
      refine ⟨_, rfl, ?_, ?_⟩
      · rfl
      refine wp_aload_n (pc' := 1) rfl rfl rfl (by decide) ?_
      refine wp_iload_n (pc' := 2) rfl rfl rfl ?_
      refine wp_iconst (a := 1) (pc' := 3) rfl rfl rfl ?_
      refine wp_bipush (a := 20) (pc' := 5) rfl rfl rfl ?_
      refine wp_call (pc' := 8) rfl rfl rfl rfl rfl ⟨Nat.le_of_ble_eq_true rfl, Nat.le_of_ble_eq_true rfl, Nat.le_of_ble_eq_true rfl, Nat.le_of_ble_eq_true rfl, Nat.le_of_ble_eq_true rfl⟩ rfl (c_Mod_in) ?_
      rintro v1 w9 ⟨hw9, ⟨hv1, hin⟩ | ⟨hv1, hin⟩⟩
      · skip
        rw [hv1, hw9]
        clear hv1 hw9 v1 w9
        dsimp only [Option.toList, List.cons_append, List.nil_append, List.append_nil]
        refine wp_if_eq (pc' := 11) (pt := 26) rfl rfl rfl (fun q_119 => absurd q_119 (by decide)) (fun q_119 => ?_)
        refine wp_iload_n (pc' := 12) rfl rfl rfl ?_
        refine wp_iconst (a := 1) (pc' := 13) rfl rfl rfl ?_
        refine wp_ldc_w (a := 2147483646) (pc' := 16) rfl rfl rfl ?_
        refine wp_call (pc' := 19) rfl rfl rfl rfl rfl ⟨Nat.le_of_ble_eq_true rfl, Nat.le_of_ble_eq_true rfl, Nat.le_of_ble_eq_true rfl, Nat.le_of_ble_eq_true rfl, Nat.le_of_ble_eq_true rfl⟩ rfl (c_Mod_in) ?_
        rintro v1 w9 ⟨hw9, ⟨hv1, hin⟩ | ⟨hv1, hin⟩⟩
        · skip
          rw [hv1, hw9]
          clear hv1 hw9 v1 w9
          dsimp only [Option.toList, List.cons_append, List.nil_append, List.append_nil]
          refine wp_if_eq (pc' := 22) (pt := 26) rfl rfl rfl (fun q_120 => absurd q_120 (by decide)) (fun q_120 => ?_)
          refine wp_iconst (a := 1) (pc' := 23) rfl rfl rfl ?_
          refine wp_goto (pc' := 27) rfl rfl ?_
          refine wp_call (pc' := 30) rfl rfl rfl rfl rfl ⟨Nat.le_of_ble_eq_true rfl, Nat.le_of_ble_eq_true rfl, Nat.le_of_ble_eq_true rfl, Nat.le_of_ble_eq_true rfl, Nat.le_of_ble_eq_true rfl⟩ rfl (c_Mod_need (by decide)) ?_
          rintro v1 w9 ⟨hw9, ⟨hv1, hg1⟩ | ⟨hv1, hg1, hg2⟩ | ⟨hv1, hg1, hg2⟩⟩
          · skip
            rw [hv1, hw9]
            clear hv1 hw9 v1 w9
            dsimp only [Option.toList, List.cons_append, List.nil_append, List.append_nil]
            refine wp_istore_n (pc' := 31) rfl rfl (Nat.le_of_ble_eq_true rfl) rfl ?_
            dsimp only [lset, lset2, List.set, List.getElem?_cons_zero, List.getElem?_cons_succ]
            refine wp_iload_n (pc' := 32) rfl rfl rfl ?_
            refine wp_if_ge (pc' := 35) (pt := 37) rfl rfl rfl (fun q_121 => absurd q_121 (by decide)) (fun q_121 => ?_)
            refine wp_iload_n (pc' := 36) rfl rfl rfl ?_
            refine wp_ret rfl rfl rfl ?_
            first
            | (exfalso; omega)
            | exact ⟨rfl, rfl, hI⟩
          · skip
            rw [hv1, hw9]
            clear hv1 hw9 v1 w9
            dsimp only [Option.toList, List.cons_append, List.nil_append, List.append_nil]
            refine wp_istore_n (pc' := 31) rfl rfl (Nat.le_of_ble_eq_true rfl) rfl ?_
            dsimp only [lset, lset2, List.set, List.getElem?_cons_zero, List.getElem?_cons_succ]
            refine wp_iload_n (pc' := 32) rfl rfl rfl ?_
            refine wp_if_ge (pc' := 35) (pt := 37) rfl rfl rfl (fun q_122 => absurd q_122 (by decide)) (fun q_122 => ?_)
            refine wp_iload_n (pc' := 36) rfl rfl rfl ?_
            refine wp_ret rfl rfl rfl ?_
            first
            | (exfalso; omega)
            | exact ⟨rfl, rfl, hI⟩
          · skip
            rw [hv1, hw9]
            clear hv1 hw9 v1 w9
            dsimp only [Option.toList, List.cons_append, List.nil_append, List.append_nil]
            refine wp_istore_n (pc' := 31) rfl rfl (Nat.le_of_ble_eq_true rfl) rfl ?_
            dsimp only [lset, lset2, List.set, List.getElem?_cons_zero, List.getElem?_cons_succ]
            refine wp_iload_n (pc' := 32) rfl rfl rfl ?_
            refine wp_if_ge (pc' := 35) (pt := 37) rfl rfl rfl (fun q_123 => ?_) (fun q_123 => absurd (by decide) q_123)
            refine wp_aload_n (pc' := 38) rfl rfl rfl (by decide) ?_
            refine wp_getI (ci := 10) (k0 := 23) (pc' := 41) rfl rfl (by decide) (by first | assumption | rfl) ?_
            refine wp_iload_n (pc' := 42) rfl rfl rfl ?_
            refine wp_iadd (pc' := 43) rfl rfl (by first | exact w32_id (by omega) (by omega) | rfl) ?_
            refine wp_bipush (a := 40) (pc' := 45) rfl rfl rfl ?_
            refine wp_icmp_le (pc' := 48) (pt := 51) rfl rfl rfl (fun q_124 => ?_) (fun q_124 => ?_)
            · skip
              exfalso; omega
            · skip
              refine wp_bipush (a := -2) (pc' := 50) rfl rfl rfl ?_
              refine wp_ret rfl rfl rfl ?_
              first
              | (exfalso; omega)
              | exact ⟨rfl, rfl, hI⟩
        · skip
          rw [hv1, hw9]
          clear hv1 hw9 v1 w9
          dsimp only [Option.toList, List.cons_append, List.nil_append, List.append_nil]
          refine wp_if_eq (pc' := 22) (pt := 26) rfl rfl rfl (fun q_125 => ?_) (fun q_125 => absurd (by decide) q_125)
          refine wp_iconst (a := 0) (pc' := 27) rfl rfl rfl ?_
          refine wp_call (pc' := 30) rfl rfl rfl rfl rfl ⟨Nat.le_of_ble_eq_true rfl, Nat.le_of_ble_eq_true rfl, Nat.le_of_ble_eq_true rfl, Nat.le_of_ble_eq_true rfl, Nat.le_of_ble_eq_true rfl⟩ rfl (c_Mod_need (by decide)) ?_
          rintro v1 w9 ⟨hw9, ⟨hv1, hg1⟩ | ⟨hv1, hg1, hg2⟩ | ⟨hv1, hg1, hg2⟩⟩
          · skip
            rw [hv1, hw9]
            clear hv1 hw9 v1 w9
            dsimp only [Option.toList, List.cons_append, List.nil_append, List.append_nil]
            refine wp_istore_n (pc' := 31) rfl rfl (Nat.le_of_ble_eq_true rfl) rfl ?_
            dsimp only [lset, lset2, List.set, List.getElem?_cons_zero, List.getElem?_cons_succ]
            refine wp_iload_n (pc' := 32) rfl rfl rfl ?_
            refine wp_if_ge (pc' := 35) (pt := 37) rfl rfl rfl (fun q_126 => absurd q_126 (by decide)) (fun q_126 => ?_)
            refine wp_iload_n (pc' := 36) rfl rfl rfl ?_
            refine wp_ret rfl rfl rfl ?_
            first
            | (exfalso; omega)
            | exact ⟨rfl, rfl, hI⟩
          · skip
            rw [hv1, hw9]
            clear hv1 hw9 v1 w9
            dsimp only [Option.toList, List.cons_append, List.nil_append, List.append_nil]
            refine wp_istore_n (pc' := 31) rfl rfl (Nat.le_of_ble_eq_true rfl) rfl ?_
            dsimp only [lset, lset2, List.set, List.getElem?_cons_zero, List.getElem?_cons_succ]
            refine wp_iload_n (pc' := 32) rfl rfl rfl ?_
            refine wp_if_ge (pc' := 35) (pt := 37) rfl rfl rfl (fun q_127 => absurd q_127 (by decide)) (fun q_127 => ?_)
            refine wp_iload_n (pc' := 36) rfl rfl rfl ?_
            refine wp_ret rfl rfl rfl ?_
            first
            | (exfalso; omega)
            | exact ⟨rfl, rfl, hI⟩
          · skip
            rw [hv1, hw9]
            clear hv1 hw9 v1 w9
            dsimp only [Option.toList, List.cons_append, List.nil_append, List.append_nil]
            refine wp_istore_n (pc' := 31) rfl rfl (Nat.le_of_ble_eq_true rfl) rfl ?_
            dsimp only [lset, lset2, List.set, List.getElem?_cons_zero, List.getElem?_cons_succ]
            refine wp_iload_n (pc' := 32) rfl rfl rfl ?_
            refine wp_if_ge (pc' := 35) (pt := 37) rfl rfl rfl (fun q_128 => ?_) (fun q_128 => absurd (by decide) q_128)
            refine wp_aload_n (pc' := 38) rfl rfl rfl (by decide) ?_
            refine wp_getI (ci := 10) (k0 := 23) (pc' := 41) rfl rfl (by decide) (by first | assumption | rfl) ?_
            refine wp_iload_n (pc' := 42) rfl rfl rfl ?_
            refine wp_iadd (pc' := 43) rfl rfl (by first | exact w32_id (by omega) (by omega) | rfl) ?_
            refine wp_bipush (a := 40) (pc' := 45) rfl rfl rfl ?_
            refine wp_icmp_le (pc' := 48) (pt := 51) rfl rfl rfl (fun q_129 => ?_) (fun q_129 => ?_)
            · skip
              exfalso; omega
            · skip
              refine wp_bipush (a := -2) (pc' := 50) rfl rfl rfl ?_
              refine wp_ret rfl rfl rfl ?_
              first
              | (exfalso; omega)
              | exact ⟨rfl, rfl, hI⟩
      · skip
        rw [hv1, hw9]
        clear hv1 hw9 v1 w9
        dsimp only [Option.toList, List.cons_append, List.nil_append, List.append_nil]
        refine wp_if_eq (pc' := 11) (pt := 26) rfl rfl rfl (fun q_130 => ?_) (fun q_130 => absurd (by decide) q_130)
        refine wp_iconst (a := 0) (pc' := 27) rfl rfl rfl ?_
        refine wp_call (pc' := 30) rfl rfl rfl rfl rfl ⟨Nat.le_of_ble_eq_true rfl, Nat.le_of_ble_eq_true rfl, Nat.le_of_ble_eq_true rfl, Nat.le_of_ble_eq_true rfl, Nat.le_of_ble_eq_true rfl⟩ rfl (c_Mod_need (by decide)) ?_
        rintro v1 w9 ⟨hw9, ⟨hv1, hg1⟩ | ⟨hv1, hg1, hg2⟩ | ⟨hv1, hg1, hg2⟩⟩
        · skip
          rw [hv1, hw9]
          clear hv1 hw9 v1 w9
          dsimp only [Option.toList, List.cons_append, List.nil_append, List.append_nil]
          refine wp_istore_n (pc' := 31) rfl rfl (Nat.le_of_ble_eq_true rfl) rfl ?_
          dsimp only [lset, lset2, List.set, List.getElem?_cons_zero, List.getElem?_cons_succ]
          refine wp_iload_n (pc' := 32) rfl rfl rfl ?_
          refine wp_if_ge (pc' := 35) (pt := 37) rfl rfl rfl (fun q_131 => absurd q_131 (by decide)) (fun q_131 => ?_)
          refine wp_iload_n (pc' := 36) rfl rfl rfl ?_
          refine wp_ret rfl rfl rfl ?_
          first
          | (exfalso; omega)
          | exact ⟨rfl, rfl, hI⟩
        · skip
          rw [hv1, hw9]
          clear hv1 hw9 v1 w9
          dsimp only [Option.toList, List.cons_append, List.nil_append, List.append_nil]
          refine wp_istore_n (pc' := 31) rfl rfl (Nat.le_of_ble_eq_true rfl) rfl ?_
          dsimp only [lset, lset2, List.set, List.getElem?_cons_zero, List.getElem?_cons_succ]
          refine wp_iload_n (pc' := 32) rfl rfl rfl ?_
          refine wp_if_ge (pc' := 35) (pt := 37) rfl rfl rfl (fun q_132 => absurd q_132 (by decide)) (fun q_132 => ?_)
          refine wp_iload_n (pc' := 36) rfl rfl rfl ?_
          refine wp_ret rfl rfl rfl ?_
          first
          | (exfalso; omega)
          | exact ⟨rfl, rfl, hI⟩
        · skip
          rw [hv1, hw9]
          clear hv1 hw9 v1 w9
          dsimp only [Option.toList, List.cons_append, List.nil_append, List.append_nil]
          refine wp_istore_n (pc' := 31) rfl rfl (Nat.le_of_ble_eq_true rfl) rfl ?_
          dsimp only [lset, lset2, List.set, List.getElem?_cons_zero, List.getElem?_cons_succ]
          refine wp_iload_n (pc' := 32) rfl rfl rfl ?_
          refine wp_if_ge (pc' := 35) (pt := 37) rfl rfl rfl (fun q_133 => ?_) (fun q_133 => absurd (by decide) q_133)
          refine wp_aload_n (pc' := 38) rfl rfl rfl (by decide) ?_
          refine wp_getI (ci := 10) (k0 := 23) (pc' := 41) rfl rfl (by decide) (by first | assumption | rfl) ?_
          refine wp_iload_n (pc' := 42) rfl rfl rfl ?_
          refine wp_iadd (pc' := 43) rfl rfl (by first | exact w32_id (by omega) (by omega) | rfl) ?_
          refine wp_bipush (a := 40) (pc' := 45) rfl rfl rfl ?_
          refine wp_icmp_le (pc' := 48) (pt := 51) rfl rfl rfl (fun q_134 => ?_) (fun q_134 => ?_)
          · skip
            exfalso; omega
          · skip
            refine wp_bipush (a := -2) (pc' := 50) rfl rfl rfl ?_
            refine wp_ret rfl rfl rfl ?_
            first
            | (exfalso; omega)
            | exact ⟨rfl, rfl, hI⟩
    · skip
      refine wp_iload_n (pc' := 12) rfl rfl rfl ?_
      refine wp_iconst (a := 1) (pc' := 13) rfl rfl rfl ?_
      refine wp_icmp_lt (pc' := 16) (pt := 23) rfl rfl rfl (fun q_135 => ?_) (fun q_135 => ?_)
      · skip
        refine wp_iconst (a := -1) (pc' := 24) rfl rfl rfl ?_
        refine wp_ret rfl rfl rfl ?_
        refine ⟨_, rfl, ?_, ?_⟩
        · rfl
        refine wp_aload_n (pc' := 1) rfl rfl rfl (by decide) ?_
        refine wp_iload_n (pc' := 2) rfl rfl rfl ?_
        refine wp_iconst (a := 1) (pc' := 3) rfl rfl rfl ?_
        refine wp_bipush (a := 20) (pc' := 5) rfl rfl rfl ?_
        refine wp_call (pc' := 8) rfl rfl rfl rfl rfl ⟨Nat.le_of_ble_eq_true rfl, Nat.le_of_ble_eq_true rfl, Nat.le_of_ble_eq_true rfl, Nat.le_of_ble_eq_true rfl, Nat.le_of_ble_eq_true rfl⟩ rfl (c_Mod_in) ?_
        rintro v1 w9 ⟨hw9, ⟨hv1, hin⟩ | ⟨hv1, hin⟩⟩
        · skip
          rw [hv1, hw9]
          clear hv1 hw9 v1 w9
          dsimp only [Option.toList, List.cons_append, List.nil_append, List.append_nil]
          refine wp_if_eq (pc' := 11) (pt := 26) rfl rfl rfl (fun q_186 => absurd q_186 (by decide)) (fun q_186 => ?_)
          refine wp_iload_n (pc' := 12) rfl rfl rfl ?_
          refine wp_iconst (a := 1) (pc' := 13) rfl rfl rfl ?_
          refine wp_ldc_w (a := 2147483646) (pc' := 16) rfl rfl rfl ?_
          refine wp_call (pc' := 19) rfl rfl rfl rfl rfl ⟨Nat.le_of_ble_eq_true rfl, Nat.le_of_ble_eq_true rfl, Nat.le_of_ble_eq_true rfl, Nat.le_of_ble_eq_true rfl, Nat.le_of_ble_eq_true rfl⟩ rfl (c_Mod_in) ?_
          rintro v1 w9 ⟨hw9, ⟨hv1, hin⟩ | ⟨hv1, hin⟩⟩
          · skip
            rw [hv1, hw9]
            clear hv1 hw9 v1 w9
            dsimp only [Option.toList, List.cons_append, List.nil_append, List.append_nil]
            refine wp_if_eq (pc' := 22) (pt := 26) rfl rfl rfl (fun q_187 => absurd q_187 (by decide)) (fun q_187 => ?_)
            refine wp_iconst (a := 1) (pc' := 23) rfl rfl rfl ?_
            refine wp_goto (pc' := 27) rfl rfl ?_
            refine wp_call (pc' := 30) rfl rfl rfl rfl rfl ⟨Nat.le_of_ble_eq_true rfl, Nat.le_of_ble_eq_true rfl, Nat.le_of_ble_eq_true rfl, Nat.le_of_ble_eq_true rfl, Nat.le_of_ble_eq_true rfl⟩ rfl (c_Mod_need (by decide)) ?_
            rintro v1 w9 ⟨hw9, ⟨hv1, hg1⟩ | ⟨hv1, hg1, hg2⟩ | ⟨hv1, hg1, hg2⟩⟩
            · skip
              rw [hv1, hw9]
              clear hv1 hw9 v1 w9
              dsimp only [Option.toList, List.cons_append, List.nil_append, List.append_nil]
              refine wp_istore_n (pc' := 31) rfl rfl (Nat.le_of_ble_eq_true rfl) rfl ?_
              dsimp only [lset, lset2, List.set, List.getElem?_cons_zero, List.getElem?_cons_succ]
              refine wp_iload_n (pc' := 32) rfl rfl rfl ?_
              refine wp_if_ge (pc' := 35) (pt := 37) rfl rfl rfl (fun q_188 => absurd q_188 (by decide)) (fun q_188 => ?_)
              refine wp_iload_n (pc' := 36) rfl rfl rfl ?_
              refine wp_ret rfl rfl rfl ?_
              first
              | (exfalso; omega)
              | exact ⟨rfl, rfl, hI⟩
            · skip
              rw [hv1, hw9]
              clear hv1 hw9 v1 w9
              dsimp only [Option.toList, List.cons_append, List.nil_append, List.append_nil]
              refine wp_istore_n (pc' := 31) rfl rfl (Nat.le_of_ble_eq_true rfl) rfl ?_
              dsimp only [lset, lset2, List.set, List.getElem?_cons_zero, List.getElem?_cons_succ]
              refine wp_iload_n (pc' := 32) rfl rfl rfl ?_
              refine wp_if_ge (pc' := 35) (pt := 37) rfl rfl rfl (fun q_189 => absurd q_189 (by decide)) (fun q_189 => ?_)
              refine wp_iload_n (pc' := 36) rfl rfl rfl ?_
              refine wp_ret rfl rfl rfl ?_
              first
              | (exfalso; omega)
              | exact ⟨rfl, rfl, hI⟩
            · skip
              rw [hv1, hw9]
              clear hv1 hw9 v1 w9
              dsimp only [Option.toList, List.cons_append, List.nil_append, List.append_nil]
              refine wp_istore_n (pc' := 31) rfl rfl (Nat.le_of_ble_eq_true rfl) rfl ?_
              dsimp only [lset, lset2, List.set, List.getElem?_cons_zero, List.getElem?_cons_succ]
              refine wp_iload_n (pc' := 32) rfl rfl rfl ?_
              refine wp_if_ge (pc' := 35) (pt := 37) rfl rfl rfl (fun q_190 => ?_) (fun q_190 => absurd (by decide) q_190)
              refine wp_aload_n (pc' := 38) rfl rfl rfl (by decide) ?_
              refine wp_getI (ci := 10) (k0 := 23) (pc' := 41) rfl rfl (by decide) (by first | assumption | rfl) ?_
              refine wp_iload_n (pc' := 42) rfl rfl rfl ?_
              refine wp_iadd (pc' := 43) rfl rfl (by first | exact w32_id (by omega) (by omega) | rfl) ?_
              refine wp_bipush (a := 40) (pc' := 45) rfl rfl rfl ?_
              refine wp_icmp_le (pc' := 48) (pt := 51) rfl rfl rfl (fun q_191 => ?_) (fun q_191 => ?_)
              · skip
                exfalso; omega
              · skip
                refine wp_bipush (a := -2) (pc' := 50) rfl rfl rfl ?_
                refine wp_ret rfl rfl rfl ?_
                first
                | (exfalso; omega)
                | exact ⟨rfl, rfl, hI⟩
          · skip
            rw [hv1, hw9]
            clear hv1 hw9 v1 w9
            dsimp only [Option.toList, List.cons_append, List.nil_append, List.append_nil]
            refine wp_if_eq (pc' := 22) (pt := 26) rfl rfl rfl (fun q_192 => ?_) (fun q_192 => absurd (by decide) q_192)
            refine wp_iconst (a := 0) (pc' := 27) rfl rfl rfl ?_
            refine wp_call (pc' := 30) rfl rfl rfl rfl rfl ⟨Nat.le_of_ble_eq_true rfl, Nat.le_of_ble_eq_true rfl, Nat.le_of_ble_eq_true rfl, Nat.le_of_ble_eq_true rfl, Nat.le_of_ble_eq_true rfl⟩ rfl (c_Mod_need (by decide)) ?_
            rintro v1 w9 ⟨hw9, ⟨hv1, hg1⟩ | ⟨hv1, hg1, hg2⟩ | ⟨hv1, hg1, hg2⟩⟩
            · skip
              rw [hv1, hw9]
              clear hv1 hw9 v1 w9
              dsimp only [Option.toList, List.cons_append, List.nil_append, List.append_nil]
              refine wp_istore_n (pc' := 31) rfl rfl (Nat.le_of_ble_eq_true rfl) rfl ?_
              dsimp only [lset, lset2, List.set, List.getElem?_cons_zero, List.getElem?_cons_succ]
              refine wp_iload_n (pc' := 32) rfl rfl rfl ?_
              refine wp_if_ge (pc' := 35) (pt := 37) rfl rfl rfl (fun q_193 => absurd q_193 (by decide)) (fun q_193 => ?_)
              refine wp_iload_n (pc' := 36) rfl rfl rfl ?_
              refine wp_ret rfl rfl rfl ?_
              first
              | (exfalso; omega)
              | exact ⟨rfl, rfl, hI⟩
            · skip
              rw [hv1, hw9]
              clear hv1 hw9 v1 w9
              dsimp only [Option.toList, List.cons_append, List.nil_append, List.append_nil]
              refine wp_istore_n (pc' := 31) rfl rfl (Nat.le_of_ble_eq_true rfl) rfl ?_
              dsimp only [lset, lset2, List.set, List.getElem?_cons_zero, List.getElem?_cons_succ]
              refine wp_iload_n (pc' := 32) rfl rfl rfl ?_
              refine wp_if_ge (pc' := 35) (pt := 37) rfl rfl rfl (fun q_194 => absurd q_194 (by decide)) (fun q_194 => ?_)
              refine wp_iload_n (pc' := 36) rfl rfl rfl ?_
              refine wp_ret rfl rfl rfl ?_
              first
              | (exfalso; omega)
              | exact ⟨rfl, rfl, hI⟩
            · skip
              rw [hv1, hw9]
              clear hv1 hw9 v1 w9
              dsimp only [Option.toList, List.cons_append, List.nil_append, List.append_nil]
              refine wp_istore_n (pc' := 31) rfl rfl (Nat.le_of_ble_eq_true rfl) rfl ?_
              dsimp only [lset, lset2, List.set, List.getElem?_cons_zero, List.getElem?_cons_succ]
              refine wp_iload_n (pc' := 32) rfl rfl rfl ?_
              refine wp_if_ge (pc' := 35) (pt := 37) rfl rfl rfl (fun q_195 => ?_) (fun q_195 => absurd (by decide) q_195)
              refine wp_aload_n (pc' := 38) rfl rfl rfl (by decide) ?_
              refine wp_getI (ci := 10) (k0 := 23) (pc' := 41) rfl rfl (by decide) (by first | assumption | rfl) ?_
              refine wp_iload_n (pc' := 42) rfl rfl rfl ?_
              refine wp_iadd (pc' := 43) rfl rfl (by first | exact w32_id (by omega) (by omega) | rfl) ?_
              refine wp_bipush (a := 40) (pc' := 45) rfl rfl rfl ?_
              refine wp_icmp_le (pc' := 48) (pt := 51) rfl rfl rfl (fun q_196 => ?_) (fun q_196 => ?_)
              · skip
                exfalso; omega
              · skip
                refine wp_bipush (a := -2) (pc' := 50) rfl rfl rfl ?_
                refine wp_ret rfl rfl rfl ?_
                first
                | (exfalso; omega)
                | exact ⟨rfl, rfl, hI⟩
        · skip
          rw [hv1, hw9]
          clear hv1 hw9 v1 w9
          dsimp only [Option.toList, List.cons_append, List.nil_append, List.append_nil]
          refine wp_if_eq (pc' := 11) (pt := 26) rfl rfl rfl (fun q_197 => ?_) (fun q_197 => absurd (by decide) q_197)
          refine wp_iconst (a := 0) (pc' := 27) rfl rfl rfl ?_
          refine wp_call (pc' := 30) rfl rfl rfl rfl rfl ⟨Nat.le_of_ble_eq_true rfl, Nat.le_of_ble_eq_true rfl, Nat.le_of_ble_eq_true rfl, Nat.le_of_ble_eq_true rfl, Nat.le_of_ble_eq_true rfl⟩ rfl (c_Mod_need (by decide)) ?_
          rintro v1 w9 ⟨hw9, ⟨hv1, hg1⟩ | ⟨hv1, hg1, hg2⟩ | ⟨hv1, hg1, hg2⟩⟩
          · skip
            rw [hv1, hw9]
            clear hv1 hw9 v1 w9
            dsimp only [Option.toList, List.cons_append, List.nil_append, List.append_nil]
            refine wp_istore_n (pc' := 31) rfl rfl (Nat.le_of_ble_eq_true rfl) rfl ?_
            dsimp only [lset, lset2, List.set, List.getElem?_cons_zero, List.getElem?_cons_succ]
            refine wp_iload_n (pc' := 32) rfl rfl rfl ?_
            refine wp_if_ge (pc' := 35) (pt := 37) rfl rfl rfl (fun q_198 => absurd q_198 (by decide)) (fun q_198 => ?_)
            refine wp_iload_n (pc' := 36) rfl rfl rfl ?_
            refine wp_ret rfl rfl rfl ?_
            first
            | (exfalso; omega)
            | exact ⟨rfl, rfl, hI⟩
          · skip
            rw [hv1, hw9]
            clear hv1 hw9 v1 w9
            dsimp only [Option.toList, List.cons_append, List.nil_append, List.append_nil]
            refine wp_istore_n (pc' := 31) rfl rfl (Nat.le_of_ble_eq_true rfl) rfl ?_
            dsimp only [lset, lset2, List.set, List.getElem?_cons_zero, List.getElem?_cons_succ]
            refine wp_iload_n (pc' := 32) rfl rfl rfl ?_
            refine wp_if_ge (pc' := 35) (pt := 37) rfl rfl rfl (fun q_199 => absurd q_199 (by decide)) (fun q_199 => ?_)
            refine wp_iload_n (pc' := 36) rfl rfl rfl ?_
            refine wp_ret rfl rfl rfl ?_
            first
            | (exfalso; omega)
            | exact ⟨rfl, rfl, hI⟩
          · skip
            rw [hv1, hw9]
            clear hv1 hw9 v1 w9
            dsimp only [Option.toList, List.cons_append, List.nil_append, List.append_nil]
            refine wp_istore_n (pc' := 31) rfl rfl (Nat.le_of_ble_eq_true rfl) rfl ?_
            dsimp only [lset, lset2, List.set, List.getElem?_cons_zero, List.getElem?_cons_succ]
            refine wp_iload_n (pc' := 32) rfl rfl rfl ?_
            refine wp_if_ge (pc' := 35) (pt := 37) rfl rfl rfl (fun q_200 => ?_) (fun q_200 => absurd (by decide) q_200)
            refine wp_aload_n (pc' := 38) rfl rfl rfl (by decide) ?_
            refine wp_getI (ci := 10) (k0 := 23) (pc' := 41) rfl rfl (by decide) (by first | assumption | rfl) ?_
            refine wp_iload_n (pc' := 42) rfl rfl rfl ?_
            refine wp_iadd (pc' := 43) rfl rfl (by first | exact w32_id (by omega) (by omega) | rfl) ?_
            refine wp_bipush (a := 40) (pc' := 45) rfl rfl rfl ?_
            refine wp_icmp_le (pc' := 48) (pt := 51) rfl rfl rfl (fun q_201 => ?_) (fun q_201 => ?_)
            · skip
              exfalso; omega
            · skip
              refine wp_bipush (a := -2) (pc' := 50) rfl rfl rfl ?_
              refine wp_ret rfl rfl rfl ?_
              first
              | (exfalso; omega)
              | exact ⟨rfl, rfl, hI⟩
      · skip
        refine wp_iload_n (pc' := 17) rfl rfl rfl ?_
        refine wp_ldc_w (a := 2147483647) (pc' := 20) rfl rfl rfl ?_
        refine wp_icmp_lt (pc' := 23) (pt := 25) rfl rfl rfl (fun q_202 => ?_) (fun q_202 => ?_)
        · skip
          refine wp_aload_n (pc' := 26) rfl rfl rfl (by decide) ?_
          refine wp_getR (r' := 3) (ci := 9) (k0 := 2) (pc' := 29) rfl rfl (by decide) (by first | assumption | rfl) (hT.get 2 rfl) ?_
          refine wp_call (pc' := 32) rfl rfl rfl rfl rfl ⟨Nat.le_of_ble_eq_true rfl, Nat.le_of_ble_eq_true rfl, Nat.le_of_ble_eq_true rfl, Nat.le_of_ble_eq_true rfl, Nat.le_of_ble_eq_true rfl⟩ rfl (c_Land_isEmpty_3) ?_
          rintro v1 w9 ⟨hw9, ⟨hv1, he⟩ | ⟨hv1, he⟩⟩
          · skip
            rw [hv1, hw9]
            clear hv1 hw9 v1 w9
            dsimp only [Option.toList, List.cons_append, List.nil_append, List.append_nil]
            refine wp_if_eq (pc' := 35) (pt := 38) rfl rfl rfl (fun q_203 => absurd q_203 (by decide)) (fun q_203 => ?_)
            refine wp_bipush (a := -4) (pc' := 37) rfl rfl rfl ?_
            refine wp_ret rfl rfl rfl ?_
            refine ⟨_, rfl, ?_, ?_⟩
            · rfl
            refine wp_aload_n (pc' := 1) rfl rfl rfl (by decide) ?_
            refine wp_iload_n (pc' := 2) rfl rfl rfl ?_
            refine wp_iconst (a := 1) (pc' := 3) rfl rfl rfl ?_
            refine wp_bipush (a := 20) (pc' := 5) rfl rfl rfl ?_
            refine wp_call (pc' := 8) rfl rfl rfl rfl rfl ⟨Nat.le_of_ble_eq_true rfl, Nat.le_of_ble_eq_true rfl, Nat.le_of_ble_eq_true rfl, Nat.le_of_ble_eq_true rfl, Nat.le_of_ble_eq_true rfl⟩ rfl (c_Mod_in) ?_
            rintro v1 w9 ⟨hw9, ⟨hv1, hin⟩ | ⟨hv1, hin⟩⟩
            · skip
              rw [hv1, hw9]
              clear hv1 hw9 v1 w9
              dsimp only [Option.toList, List.cons_append, List.nil_append, List.append_nil]
              refine wp_if_eq (pc' := 11) (pt := 26) rfl rfl rfl (fun q_254 => absurd q_254 (by decide)) (fun q_254 => ?_)
              refine wp_iload_n (pc' := 12) rfl rfl rfl ?_
              refine wp_iconst (a := 1) (pc' := 13) rfl rfl rfl ?_
              refine wp_ldc_w (a := 2147483646) (pc' := 16) rfl rfl rfl ?_
              refine wp_call (pc' := 19) rfl rfl rfl rfl rfl ⟨Nat.le_of_ble_eq_true rfl, Nat.le_of_ble_eq_true rfl, Nat.le_of_ble_eq_true rfl, Nat.le_of_ble_eq_true rfl, Nat.le_of_ble_eq_true rfl⟩ rfl (c_Mod_in) ?_
              rintro v1 w9 ⟨hw9, ⟨hv1, hin⟩ | ⟨hv1, hin⟩⟩
              · skip
                rw [hv1, hw9]
                clear hv1 hw9 v1 w9
                dsimp only [Option.toList, List.cons_append, List.nil_append, List.append_nil]
                refine wp_if_eq (pc' := 22) (pt := 26) rfl rfl rfl (fun q_255 => absurd q_255 (by decide)) (fun q_255 => ?_)
                refine wp_iconst (a := 1) (pc' := 23) rfl rfl rfl ?_
                refine wp_goto (pc' := 27) rfl rfl ?_
                refine wp_call (pc' := 30) rfl rfl rfl rfl rfl ⟨Nat.le_of_ble_eq_true rfl, Nat.le_of_ble_eq_true rfl, Nat.le_of_ble_eq_true rfl, Nat.le_of_ble_eq_true rfl, Nat.le_of_ble_eq_true rfl⟩ rfl (c_Mod_need (by decide)) ?_
                rintro v1 w9 ⟨hw9, ⟨hv1, hg1⟩ | ⟨hv1, hg1, hg2⟩ | ⟨hv1, hg1, hg2⟩⟩
                · skip
                  rw [hv1, hw9]
                  clear hv1 hw9 v1 w9
                  dsimp only [Option.toList, List.cons_append, List.nil_append, List.append_nil]
                  refine wp_istore_n (pc' := 31) rfl rfl (Nat.le_of_ble_eq_true rfl) rfl ?_
                  dsimp only [lset, lset2, List.set, List.getElem?_cons_zero, List.getElem?_cons_succ]
                  refine wp_iload_n (pc' := 32) rfl rfl rfl ?_
                  refine wp_if_ge (pc' := 35) (pt := 37) rfl rfl rfl (fun q_256 => absurd q_256 (by decide)) (fun q_256 => ?_)
                  refine wp_iload_n (pc' := 36) rfl rfl rfl ?_
                  refine wp_ret rfl rfl rfl ?_
                  first
                  | (exfalso; omega)
                  | exact ⟨rfl, rfl, hI⟩
                · skip
                  rw [hv1, hw9]
                  clear hv1 hw9 v1 w9
                  dsimp only [Option.toList, List.cons_append, List.nil_append, List.append_nil]
                  refine wp_istore_n (pc' := 31) rfl rfl (Nat.le_of_ble_eq_true rfl) rfl ?_
                  dsimp only [lset, lset2, List.set, List.getElem?_cons_zero, List.getElem?_cons_succ]
                  refine wp_iload_n (pc' := 32) rfl rfl rfl ?_
                  refine wp_if_ge (pc' := 35) (pt := 37) rfl rfl rfl (fun q_257 => absurd q_257 (by decide)) (fun q_257 => ?_)
                  refine wp_iload_n (pc' := 36) rfl rfl rfl ?_
                  refine wp_ret rfl rfl rfl ?_
                  first
                  | (exfalso; omega)
                  | exact ⟨rfl, rfl, hI⟩
                · skip
                  rw [hv1, hw9]
                  clear hv1 hw9 v1 w9
                  dsimp only [Option.toList, List.cons_append, List.nil_append, List.append_nil]
                  refine wp_istore_n (pc' := 31) rfl rfl (Nat.le_of_ble_eq_true rfl) rfl ?_
                  dsimp only [lset, lset2, List.set, List.getElem?_cons_zero, List.getElem?_cons_succ]
                  refine wp_iload_n (pc' := 32) rfl rfl rfl ?_
                  refine wp_if_ge (pc' := 35) (pt := 37) rfl rfl rfl (fun q_258 => ?_) (fun q_258 => absurd (by decide) q_258)
                  refine wp_aload_n (pc' := 38) rfl rfl rfl (by decide) ?_
                  refine wp_getI (ci := 10) (k0 := 23) (pc' := 41) rfl rfl (by decide) (by first | assumption | rfl) ?_
                  refine wp_iload_n (pc' := 42) rfl rfl rfl ?_
                  refine wp_iadd (pc' := 43) rfl rfl (by first | exact w32_id (by omega) (by omega) | rfl) ?_
                  refine wp_bipush (a := 40) (pc' := 45) rfl rfl rfl ?_
                  refine wp_icmp_le (pc' := 48) (pt := 51) rfl rfl rfl (fun q_259 => ?_) (fun q_259 => ?_)
                  · skip
                    exfalso; omega
                  · skip
                    refine wp_bipush (a := -2) (pc' := 50) rfl rfl rfl ?_
                    refine wp_ret rfl rfl rfl ?_
                    first
                    | (exfalso; omega)
                    | exact ⟨rfl, rfl, hI⟩
              · skip
                rw [hv1, hw9]
                clear hv1 hw9 v1 w9
                dsimp only [Option.toList, List.cons_append, List.nil_append, List.append_nil]
                refine wp_if_eq (pc' := 22) (pt := 26) rfl rfl rfl (fun q_260 => ?_) (fun q_260 => absurd (by decide) q_260)
                refine wp_iconst (a := 0) (pc' := 27) rfl rfl rfl ?_
                refine wp_call (pc' := 30) rfl rfl rfl rfl rfl ⟨Nat.le_of_ble_eq_true rfl, Nat.le_of_ble_eq_true rfl, Nat.le_of_ble_eq_true rfl, Nat.le_of_ble_eq_true rfl, Nat.le_of_ble_eq_true rfl⟩ rfl (c_Mod_need (by decide)) ?_
                rintro v1 w9 ⟨hw9, ⟨hv1, hg1⟩ | ⟨hv1, hg1, hg2⟩ | ⟨hv1, hg1, hg2⟩⟩
                · skip
                  rw [hv1, hw9]
                  clear hv1 hw9 v1 w9
                  dsimp only [Option.toList, List.cons_append, List.nil_append, List.append_nil]
                  refine wp_istore_n (pc' := 31) rfl rfl (Nat.le_of_ble_eq_true rfl) rfl ?_
                  dsimp only [lset, lset2, List.set, List.getElem?_cons_zero, List.getElem?_cons_succ]
                  refine wp_iload_n (pc' := 32) rfl rfl rfl ?_
                  refine wp_if_ge (pc' := 35) (pt := 37) rfl rfl rfl (fun q_261 => absurd q_261 (by decide)) (fun q_261 => ?_)
                  refine wp_iload_n (pc' := 36) rfl rfl rfl ?_
                  refine wp_ret rfl rfl rfl ?_
                  first
                  | (exfalso; omega)
                  | exact ⟨rfl, rfl, hI⟩
                · skip
                  rw [hv1, hw9]
                  clear hv1 hw9 v1 w9
                  dsimp only [Option.toList, List.cons_append, List.nil_append, List.append_nil]
                  refine wp_istore_n (pc' := 31) rfl rfl (Nat.le_of_ble_eq_true rfl) rfl ?_
                  dsimp only [lset, lset2, List.set, List.getElem?_cons_zero, List.getElem?_cons_succ]
                  refine wp_iload_n (pc' := 32) rfl rfl rfl ?_
                  refine wp_if_ge (pc' := 35) (pt := 37) rfl rfl rfl (fun q_262 => absurd q_262 (by decide)) (fun q_262 => ?_)
                  refine wp_iload_n (pc' := 36) rfl rfl rfl ?_
                  refine wp_ret rfl rfl rfl ?_
                  first
                  | (exfalso; omega)
                  | exact ⟨rfl, rfl, hI⟩
                · skip
                  rw [hv1, hw9]
                  clear hv1 hw9 v1 w9
                  dsimp only [Option.toList, List.cons_append, List.nil_append, List.append_nil]
                  refine wp_istore_n (pc' := 31) rfl rfl (Nat.le_of_ble_eq_true rfl) rfl ?_
                  dsimp only [lset, lset2, List.set, List.getElem?_cons_zero, List.getElem?_cons_succ]
                  refine wp_iload_n (pc' := 32) rfl rfl rfl ?_
                  refine wp_if_ge (pc' := 35) (pt := 37) rfl rfl rfl (fun q_263 => ?_) (fun q_263 => absurd (by decide) q_263)
                  refine wp_aload_n (pc' := 38) rfl rfl rfl (by decide) ?_
                  refine wp_getI (ci := 10) (k0 := 23) (pc' := 41) rfl rfl (by decide) (by first | assumption | rfl) ?_
                  refine wp_iload_n (pc' := 42) rfl rfl rfl ?_
                  refine wp_iadd (pc' := 43) rfl rfl (by first | exact w32_id (by omega) (by omega) | rfl) ?_
                  refine wp_bipush (a := 40) (pc' := 45) rfl rfl rfl ?_
                  refine wp_icmp_le (pc' := 48) (pt := 51) rfl rfl rfl (fun q_264 => ?_) (fun q_264 => ?_)
                  · skip
                    exfalso; omega
                  · skip
                    refine wp_bipush (a := -2) (pc' := 50) rfl rfl rfl ?_
                    refine wp_ret rfl rfl rfl ?_
                    first
                    | (exfalso; omega)
                    | exact ⟨rfl, rfl, hI⟩
            · skip
              rw [hv1, hw9]
              clear hv1 hw9 v1 w9
              dsimp only [Option.toList, List.cons_append, List.nil_append, List.append_nil]
              refine wp_if_eq (pc' := 11) (pt := 26) rfl rfl rfl (fun q_265 => ?_) (fun q_265 => absurd (by decide) q_265)
              refine wp_iconst (a := 0) (pc' := 27) rfl rfl rfl ?_
              refine wp_call (pc' := 30) rfl rfl rfl rfl rfl ⟨Nat.le_of_ble_eq_true rfl, Nat.le_of_ble_eq_true rfl, Nat.le_of_ble_eq_true rfl, Nat.le_of_ble_eq_true rfl, Nat.le_of_ble_eq_true rfl⟩ rfl (c_Mod_need (by decide)) ?_
              rintro v1 w9 ⟨hw9, ⟨hv1, hg1⟩ | ⟨hv1, hg1, hg2⟩ | ⟨hv1, hg1, hg2⟩⟩
              · skip
                rw [hv1, hw9]
                clear hv1 hw9 v1 w9
                dsimp only [Option.toList, List.cons_append, List.nil_append, List.append_nil]
                refine wp_istore_n (pc' := 31) rfl rfl (Nat.le_of_ble_eq_true rfl) rfl ?_
                dsimp only [lset, lset2, List.set, List.getElem?_cons_zero, List.getElem?_cons_succ]
                refine wp_iload_n (pc' := 32) rfl rfl rfl ?_
                refine wp_if_ge (pc' := 35) (pt := 37) rfl rfl rfl (fun q_266 => absurd q_266 (by decide)) (fun q_266 => ?_)
                refine wp_iload_n (pc' := 36) rfl rfl rfl ?_
                refine wp_ret rfl rfl rfl ?_
                first
                | (exfalso; omega)
                | exact ⟨rfl, rfl, hI⟩
              · skip
                rw [hv1, hw9]
                clear hv1 hw9 v1 w9
                dsimp only [Option.toList, List.cons_append, List.nil_append, List.append_nil]
                refine wp_istore_n (pc' := 31) rfl rfl (Nat.le_of_ble_eq_true rfl) rfl ?_
                dsimp only [lset, lset2, List.set, List.getElem?_cons_zero, List.getElem?_cons_succ]
                refine wp_iload_n (pc' := 32) rfl rfl rfl ?_
                refine wp_if_ge (pc' := 35) (pt := 37) rfl rfl rfl (fun q_267 => absurd q_267 (by decide)) (fun q_267 => ?_)
                refine wp_iload_n (pc' := 36) rfl rfl rfl ?_
                refine wp_ret rfl rfl rfl ?_
                first
                | (exfalso; omega)
                | exact ⟨rfl, rfl, hI⟩
              · skip
                rw [hv1, hw9]
                clear hv1 hw9 v1 w9
                dsimp only [Option.toList, List.cons_append, List.nil_append, List.append_nil]
                refine wp_istore_n (pc' := 31) rfl rfl (Nat.le_of_ble_eq_true rfl) rfl ?_
                dsimp only [lset, lset2, List.set, List.getElem?_cons_zero, List.getElem?_cons_succ]
                refine wp_iload_n (pc' := 32) rfl rfl rfl ?_
                refine wp_if_ge (pc' := 35) (pt := 37) rfl rfl rfl (fun q_268 => ?_) (fun q_268 => absurd (by decide) q_268)
                refine wp_aload_n (pc' := 38) rfl rfl rfl (by decide) ?_
                refine wp_getI (ci := 10) (k0 := 23) (pc' := 41) rfl rfl (by decide) (by first | assumption | rfl) ?_
                refine wp_iload_n (pc' := 42) rfl rfl rfl ?_
                refine wp_iadd (pc' := 43) rfl rfl (by first | exact w32_id (by omega) (by omega) | rfl) ?_
                refine wp_bipush (a := 40) (pc' := 45) rfl rfl rfl ?_
                refine wp_icmp_le (pc' := 48) (pt := 51) rfl rfl rfl (fun q_269 => ?_) (fun q_269 => ?_)
                · skip
                  exfalso; omega
                · skip
                  refine wp_bipush (a := -2) (pc' := 50) rfl rfl rfl ?_
                  refine wp_ret rfl rfl rfl ?_
                  first
                  | (exfalso; omega)
                  | exact ⟨rfl, rfl, hI⟩
          · skip
            rw [hv1, hw9]
            clear hv1 hw9 v1 w9
            have hpr := hpre (by omega)
            dsimp only [Option.toList, List.cons_append, List.nil_append, List.append_nil]
            refine wp_if_eq (pc' := 35) (pt := 38) rfl rfl rfl (fun q_270 => ?_) (fun q_270 => absurd (by decide) q_270)
            refine wp_aload_n (pc' := 39) rfl rfl rfl (by decide) ?_
            refine wp_getR (r' := 3) (ci := 9) (k0 := 2) (pc' := 42) rfl rfl (by decide) (by first | assumption | rfl) (hT.get 2 rfl) ?_
            refine wp_getI (ci := 3) (k0 := 6) (pc' := 45) rfl rfl (by decide) (by first | assumption | rfl) ?_
            refine wp_bipush (a := 40) (pc' := 47) rfl rfl rfl ?_
            refine wp_iload_n (pc' := 48) rfl rfl rfl ?_
            refine wp_isub (pc' := 49) rfl rfl (by first | exact w32_id (by omega) (by omega) | rfl) ?_
            refine wp_icmp_le (pc' := 52) (pt := 55) rfl rfl rfl (fun q_271 => ?_) (fun q_271 => ?_)
            · skip
              refine wp_iload_n (pc' := 56) rfl rfl rfl ?_
              refine wp_istore_n (pc' := 57) rfl rfl (Nat.le_of_ble_eq_true rfl) rfl ?_
              dsimp only [lset, lset2, List.set, List.getElem?_cons_zero, List.getElem?_cons_succ]
              refine wp_iconst (a := 0) (pc' := 58) rfl rfl rfl ?_
              refine wp_istore (pc' := 60) rfl rfl (Nat.le_of_ble_eq_true rfl) rfl ?_
              dsimp only [lset, lset2, List.set, List.getElem?_cons_zero, List.getElem?_cons_succ]
              have hn0 : w 3 2 ≠ 0 := by omega
              refine (l_lots hT hRO hpr.1 hpr.2.2.1 hpr.2.2.2.1 (by omega) (by omega) (by omega) n.toNat 0 seed 0 w rfl (by omega) rfl (LX.zero rfl)).mono (fun v w1 hq => ?_)
              obtain ⟨hv, hL1⟩ := hq
              have hS1 := hL1.1
              have er : ∀ q : Int, 100 ≤ q → w1 q = w q := fun q hq => hS1.cell q (by simp [LXL]; omega) (by simp [LXF]; omega)
              refine ⟨_, hv, hS1.cell (-2) (by decide) (by decide), ?_⟩
              have hT1 : Stc w1 := hT.sameF hS1 (by decide)
              have hp1 : MdOK w1 := by
                unfold MdOK
                rw [er 100 (by decide), er 107 (by decide), er 108 (by decide), er 109 (by decide)]
                exact hpr.2.1
              have hx1 : Cel (w1 100 11) (w1 100 12) (w1 109 0) := by rw [er 100 (by decide), er 109 (by decide), b11, b12, m0]; exact hpr.2.2.1
              have f10 : w1 100 10 = w 3 2 := by rw [er 100 (by decide), b10]
              have f23 : w1 100 23 = w 3 6 := by rw [er 100 (by decide), m23]
              refine wp_aload_n (pc' := 1) rfl rfl rfl (by decide) ?_
              refine wp_iload_n (pc' := 2) rfl rfl rfl ?_
              refine wp_iconst (a := 1) (pc' := 3) rfl rfl rfl ?_
              refine wp_bipush (a := 20) (pc' := 5) rfl rfl rfl ?_
              refine wp_call (pc' := 8) rfl rfl rfl rfl rfl ⟨Nat.le_of_ble_eq_true rfl, Nat.le_of_ble_eq_true rfl, Nat.le_of_ble_eq_true rfl, Nat.le_of_ble_eq_true rfl, Nat.le_of_ble_eq_true rfl⟩ rfl (c_Mod_in) ?_
              rintro v1 w9 ⟨hw9, ⟨hv1, hin⟩ | ⟨hv1, hin⟩⟩
              · skip
                rw [hv1, hw9]
                clear hv1 hw9 v1 w9
                dsimp only [Option.toList, List.cons_append, List.nil_append, List.append_nil]
                refine wp_if_eq (pc' := 11) (pt := 26) rfl rfl rfl (fun q_322 => absurd q_322 (by decide)) (fun q_322 => ?_)
                refine wp_iload_n (pc' := 12) rfl rfl rfl ?_
                refine wp_iconst (a := 1) (pc' := 13) rfl rfl rfl ?_
                refine wp_ldc_w (a := 2147483646) (pc' := 16) rfl rfl rfl ?_
                refine wp_call (pc' := 19) rfl rfl rfl rfl rfl ⟨Nat.le_of_ble_eq_true rfl, Nat.le_of_ble_eq_true rfl, Nat.le_of_ble_eq_true rfl, Nat.le_of_ble_eq_true rfl, Nat.le_of_ble_eq_true rfl⟩ rfl (c_Mod_in) ?_
                rintro v1 w9 ⟨hw9, ⟨hv1, hin⟩ | ⟨hv1, hin⟩⟩
                · skip
                  rw [hv1, hw9]
                  clear hv1 hw9 v1 w9
                  dsimp only [Option.toList, List.cons_append, List.nil_append, List.append_nil]
                  refine wp_if_eq (pc' := 22) (pt := 26) rfl rfl rfl (fun q_323 => absurd q_323 (by decide)) (fun q_323 => ?_)
                  refine wp_iconst (a := 1) (pc' := 23) rfl rfl rfl ?_
                  refine wp_goto (pc' := 27) rfl rfl ?_
                  refine wp_call (pc' := 30) rfl rfl rfl rfl rfl ⟨Nat.le_of_ble_eq_true rfl, Nat.le_of_ble_eq_true rfl, Nat.le_of_ble_eq_true rfl, Nat.le_of_ble_eq_true rfl, Nat.le_of_ble_eq_true rfl⟩ rfl (c_Mod_need (by decide)) ?_
                  rintro v1 w9 ⟨hw9, ⟨hv1, hg1⟩ | ⟨hv1, hg1, hg2⟩ | ⟨hv1, hg1, hg2⟩⟩
                  · skip
                    rw [hv1, hw9]
                    clear hv1 hw9 v1 w9
                    dsimp only [Option.toList, List.cons_append, List.nil_append, List.append_nil]
                    refine wp_istore_n (pc' := 31) rfl rfl (Nat.le_of_ble_eq_true rfl) rfl ?_
                    dsimp only [lset, lset2, List.set, List.getElem?_cons_zero, List.getElem?_cons_succ]
                    refine wp_iload_n (pc' := 32) rfl rfl rfl ?_
                    refine wp_if_ge (pc' := 35) (pt := 37) rfl rfl rfl (fun q_324 => absurd q_324 (by decide)) (fun q_324 => ?_)
                    refine wp_iload_n (pc' := 36) rfl rfl rfl ?_
                    refine wp_ret rfl rfl rfl ?_
                    first
                    | (exfalso; omega)
                    | exact ⟨rfl, rfl, hI⟩
                  · skip
                    rw [hv1, hw9]
                    clear hv1 hw9 v1 w9
                    dsimp only [Option.toList, List.cons_append, List.nil_append, List.append_nil]
                    refine wp_istore_n (pc' := 31) rfl rfl (Nat.le_of_ble_eq_true rfl) rfl ?_
                    dsimp only [lset, lset2, List.set, List.getElem?_cons_zero, List.getElem?_cons_succ]
                    refine wp_iload_n (pc' := 32) rfl rfl rfl ?_
                    refine wp_if_ge (pc' := 35) (pt := 37) rfl rfl rfl (fun q_325 => absurd q_325 (by decide)) (fun q_325 => ?_)
                    refine wp_iload_n (pc' := 36) rfl rfl rfl ?_
                    refine wp_ret rfl rfl rfl ?_
                    first
                    | (exfalso; omega)
                    | exact ⟨rfl, rfl, hI⟩
                  · skip
                    rw [hv1, hw9]
                    clear hv1 hw9 v1 w9
                    dsimp only [Option.toList, List.cons_append, List.nil_append, List.append_nil]
                    refine wp_istore_n (pc' := 31) rfl rfl (Nat.le_of_ble_eq_true rfl) rfl ?_
                    dsimp only [lset, lset2, List.set, List.getElem?_cons_zero, List.getElem?_cons_succ]
                    refine wp_iload_n (pc' := 32) rfl rfl rfl ?_
                    refine wp_if_ge (pc' := 35) (pt := 37) rfl rfl rfl (fun q_326 => ?_) (fun q_326 => absurd (by decide) q_326)
                    refine wp_aload_n (pc' := 38) rfl rfl rfl (by decide) ?_
                    refine wp_getI (ci := 10) (k0 := 23) (pc' := 41) rfl rfl (by decide) (by first | assumption | rfl) ?_
                    refine wp_iload_n (pc' := 42) rfl rfl rfl ?_
                    refine wp_iadd (pc' := 43) rfl rfl (by first | exact w32_id (by omega) (by omega) | rfl) ?_
                    refine wp_bipush (a := 40) (pc' := 45) rfl rfl rfl ?_
                    refine wp_icmp_le (pc' := 48) (pt := 51) rfl rfl rfl (fun q_327 => ?_) (fun q_327 => ?_)
                    · skip
                      refine wp_iload_n (pc' := 52) rfl rfl rfl ?_
                      refine wp_i2l (pc' := 53) rfl rfl ?_
                      refine wp_lstore (pc' := 55) rfl rfl (Nat.le_of_ble_eq_true rfl) rfl ?_
                      dsimp only [lset, lset2, List.set, List.getElem?_cons_zero, List.getElem?_cons_succ]
                      refine wp_iconst (a := 0) (pc' := 56) rfl rfl rfl ?_
                      refine wp_istore (pc' := 58) rfl rfl (Nat.le_of_ble_eq_true rfl) rfl ?_
                      dsimp only [lset, lset2, List.set, List.getElem?_cons_zero, List.getElem?_cons_succ]
                      refine (l_Mlots hT1 hp1 hx1 (by rw [er 109 (by decide), m1]; exact hpr.2.2.2.1) (by rw [er 109 (by decide), er 100 (by decide), m2, m23]; omega) (by omega) (by omega) (by omega) n.toNat 0 seed 0 w1 _ rfl (by omega) rfl (MX.zero rfl)).mono (fun v w2 hq2 => ?_)
                      obtain ⟨hv2, hL2⟩ := hq2
                      have hXY : ∀ j, (dN (w1 100 11) (w1 100 12) (w1 100 10) (w1 107) (fun i => w1 109 (3 + i)) (w1 108) seed (w1 109 0, w1 109 1, w1 109 2)) j = (dN (w 3 0) (w 3 1) (w 3 2) (w 4) (w 5) (w 6) seed (w 3 3, w 3 4, w 3 5)) j := fun j => by
                        rw [er 100 (by decide), er 107 (by decide), er 108 (by decide), er 109 (by decide), b11, b12, b10, m0, m1, m2]
                        exact dN_congr (fun j a b => hpr.2.2.2.2 j a b) j
                      have hed := lots_end hI hn0 (by omega) hL1 hL2 hXY (fun j _ => @dN_ok _ _ (w 3 2) seed (w 4) (w 5) (w 6) (w 3 3, w 3 4, w 3 5) (w 3 6) hpr.1.1 hpr.2.2.1 hpr.2.2.2.1 (by show 0 ≤ w 3 5 ∧ w 3 5 ≤ w 3 6; omega) (fun j a b => (hpr.1.2.2 j a b).2.2) j)
                      exact ⟨by rw [hv2, hXY], hed.1, hed.2⟩
                    · skip
                      refine wp_bipush (a := -2) (pc' := 50) rfl rfl rfl ?_
                      refine wp_ret rfl rfl rfl ?_
                      first
                      | (exfalso; omega)
                      | exact ⟨rfl, rfl, hI⟩
                · skip
                  rw [hv1, hw9]
                  clear hv1 hw9 v1 w9
                  dsimp only [Option.toList, List.cons_append, List.nil_append, List.append_nil]
                  refine wp_if_eq (pc' := 22) (pt := 26) rfl rfl rfl (fun q_328 => ?_) (fun q_328 => absurd (by decide) q_328)
                  refine wp_iconst (a := 0) (pc' := 27) rfl rfl rfl ?_
                  refine wp_call (pc' := 30) rfl rfl rfl rfl rfl ⟨Nat.le_of_ble_eq_true rfl, Nat.le_of_ble_eq_true rfl, Nat.le_of_ble_eq_true rfl, Nat.le_of_ble_eq_true rfl, Nat.le_of_ble_eq_true rfl⟩ rfl (c_Mod_need (by decide)) ?_
                  rintro v1 w9 ⟨hw9, ⟨hv1, hg1⟩ | ⟨hv1, hg1, hg2⟩ | ⟨hv1, hg1, hg2⟩⟩
                  · skip
                    rw [hv1, hw9]
                    clear hv1 hw9 v1 w9
                    dsimp only [Option.toList, List.cons_append, List.nil_append, List.append_nil]
                    refine wp_istore_n (pc' := 31) rfl rfl (Nat.le_of_ble_eq_true rfl) rfl ?_
                    dsimp only [lset, lset2, List.set, List.getElem?_cons_zero, List.getElem?_cons_succ]
                    refine wp_iload_n (pc' := 32) rfl rfl rfl ?_
                    refine wp_if_ge (pc' := 35) (pt := 37) rfl rfl rfl (fun q_329 => absurd q_329 (by decide)) (fun q_329 => ?_)
                    refine wp_iload_n (pc' := 36) rfl rfl rfl ?_
                    refine wp_ret rfl rfl rfl ?_
                    first
                    | (exfalso; omega)
                    | exact ⟨rfl, rfl, hI⟩
                  · skip
                    rw [hv1, hw9]
                    clear hv1 hw9 v1 w9
                    dsimp only [Option.toList, List.cons_append, List.nil_append, List.append_nil]
                    refine wp_istore_n (pc' := 31) rfl rfl (Nat.le_of_ble_eq_true rfl) rfl ?_
                    dsimp only [lset, lset2, List.set, List.getElem?_cons_zero, List.getElem?_cons_succ]
                    refine wp_iload_n (pc' := 32) rfl rfl rfl ?_
                    refine wp_if_ge (pc' := 35) (pt := 37) rfl rfl rfl (fun q_330 => absurd q_330 (by decide)) (fun q_330 => ?_)
                    refine wp_iload_n (pc' := 36) rfl rfl rfl ?_
                    refine wp_ret rfl rfl rfl ?_
                    first
                    | (exfalso; omega)
                    | exact ⟨rfl, rfl, hI⟩
                  · skip
                    rw [hv1, hw9]
                    clear hv1 hw9 v1 w9
                    dsimp only [Option.toList, List.cons_append, List.nil_append, List.append_nil]
                    refine wp_istore_n (pc' := 31) rfl rfl (Nat.le_of_ble_eq_true rfl) rfl ?_
                    dsimp only [lset, lset2, List.set, List.getElem?_cons_zero, List.getElem?_cons_succ]
                    refine wp_iload_n (pc' := 32) rfl rfl rfl ?_
                    refine wp_if_ge (pc' := 35) (pt := 37) rfl rfl rfl (fun q_331 => ?_) (fun q_331 => absurd (by decide) q_331)
                    refine wp_aload_n (pc' := 38) rfl rfl rfl (by decide) ?_
                    refine wp_getI (ci := 10) (k0 := 23) (pc' := 41) rfl rfl (by decide) (by first | assumption | rfl) ?_
                    refine wp_iload_n (pc' := 42) rfl rfl rfl ?_
                    refine wp_iadd (pc' := 43) rfl rfl (by first | exact w32_id (by omega) (by omega) | rfl) ?_
                    refine wp_bipush (a := 40) (pc' := 45) rfl rfl rfl ?_
                    refine wp_icmp_le (pc' := 48) (pt := 51) rfl rfl rfl (fun q_332 => ?_) (fun q_332 => ?_)
                    · skip
                      refine wp_iload_n (pc' := 52) rfl rfl rfl ?_
                      refine wp_i2l (pc' := 53) rfl rfl ?_
                      refine wp_lstore (pc' := 55) rfl rfl (Nat.le_of_ble_eq_true rfl) rfl ?_
                      dsimp only [lset, lset2, List.set, List.getElem?_cons_zero, List.getElem?_cons_succ]
                      refine wp_iconst (a := 0) (pc' := 56) rfl rfl rfl ?_
                      refine wp_istore (pc' := 58) rfl rfl (Nat.le_of_ble_eq_true rfl) rfl ?_
                      dsimp only [lset, lset2, List.set, List.getElem?_cons_zero, List.getElem?_cons_succ]
                      refine (l_Mlots hT1 hp1 hx1 (by rw [er 109 (by decide), m1]; exact hpr.2.2.2.1) (by rw [er 109 (by decide), er 100 (by decide), m2, m23]; omega) (by omega) (by omega) (by omega) n.toNat 0 seed 0 w1 _ rfl (by omega) rfl (MX.zero rfl)).mono (fun v w2 hq2 => ?_)
                      obtain ⟨hv2, hL2⟩ := hq2
                      have hXY : ∀ j, (dN (w1 100 11) (w1 100 12) (w1 100 10) (w1 107) (fun i => w1 109 (3 + i)) (w1 108) seed (w1 109 0, w1 109 1, w1 109 2)) j = (dN (w 3 0) (w 3 1) (w 3 2) (w 4) (w 5) (w 6) seed (w 3 3, w 3 4, w 3 5)) j := fun j => by
                        rw [er 100 (by decide), er 107 (by decide), er 108 (by decide), er 109 (by decide), b11, b12, b10, m0, m1, m2]
                        exact dN_congr (fun j a b => hpr.2.2.2.2 j a b) j
                      have hed := lots_end hI hn0 (by omega) hL1 hL2 hXY (fun j _ => @dN_ok _ _ (w 3 2) seed (w 4) (w 5) (w 6) (w 3 3, w 3 4, w 3 5) (w 3 6) hpr.1.1 hpr.2.2.1 hpr.2.2.2.1 (by show 0 ≤ w 3 5 ∧ w 3 5 ≤ w 3 6; omega) (fun j a b => (hpr.1.2.2 j a b).2.2) j)
                      exact ⟨by rw [hv2, hXY], hed.1, hed.2⟩
                    · skip
                      refine wp_bipush (a := -2) (pc' := 50) rfl rfl rfl ?_
                      refine wp_ret rfl rfl rfl ?_
                      first
                      | (exfalso; omega)
                      | exact ⟨rfl, rfl, hI⟩
              · skip
                rw [hv1, hw9]
                clear hv1 hw9 v1 w9
                dsimp only [Option.toList, List.cons_append, List.nil_append, List.append_nil]
                refine wp_if_eq (pc' := 11) (pt := 26) rfl rfl rfl (fun q_333 => ?_) (fun q_333 => absurd (by decide) q_333)
                refine wp_iconst (a := 0) (pc' := 27) rfl rfl rfl ?_
                refine wp_call (pc' := 30) rfl rfl rfl rfl rfl ⟨Nat.le_of_ble_eq_true rfl, Nat.le_of_ble_eq_true rfl, Nat.le_of_ble_eq_true rfl, Nat.le_of_ble_eq_true rfl, Nat.le_of_ble_eq_true rfl⟩ rfl (c_Mod_need (by decide)) ?_
                rintro v1 w9 ⟨hw9, ⟨hv1, hg1⟩ | ⟨hv1, hg1, hg2⟩ | ⟨hv1, hg1, hg2⟩⟩
                · skip
                  rw [hv1, hw9]
                  clear hv1 hw9 v1 w9
                  dsimp only [Option.toList, List.cons_append, List.nil_append, List.append_nil]
                  refine wp_istore_n (pc' := 31) rfl rfl (Nat.le_of_ble_eq_true rfl) rfl ?_
                  dsimp only [lset, lset2, List.set, List.getElem?_cons_zero, List.getElem?_cons_succ]
                  refine wp_iload_n (pc' := 32) rfl rfl rfl ?_
                  refine wp_if_ge (pc' := 35) (pt := 37) rfl rfl rfl (fun q_334 => absurd q_334 (by decide)) (fun q_334 => ?_)
                  refine wp_iload_n (pc' := 36) rfl rfl rfl ?_
                  refine wp_ret rfl rfl rfl ?_
                  first
                  | (exfalso; omega)
                  | exact ⟨rfl, rfl, hI⟩
                · skip
                  rw [hv1, hw9]
                  clear hv1 hw9 v1 w9
                  dsimp only [Option.toList, List.cons_append, List.nil_append, List.append_nil]
                  refine wp_istore_n (pc' := 31) rfl rfl (Nat.le_of_ble_eq_true rfl) rfl ?_
                  dsimp only [lset, lset2, List.set, List.getElem?_cons_zero, List.getElem?_cons_succ]
                  refine wp_iload_n (pc' := 32) rfl rfl rfl ?_
                  refine wp_if_ge (pc' := 35) (pt := 37) rfl rfl rfl (fun q_335 => absurd q_335 (by decide)) (fun q_335 => ?_)
                  refine wp_iload_n (pc' := 36) rfl rfl rfl ?_
                  refine wp_ret rfl rfl rfl ?_
                  first
                  | (exfalso; omega)
                  | exact ⟨rfl, rfl, hI⟩
                · skip
                  rw [hv1, hw9]
                  clear hv1 hw9 v1 w9
                  dsimp only [Option.toList, List.cons_append, List.nil_append, List.append_nil]
                  refine wp_istore_n (pc' := 31) rfl rfl (Nat.le_of_ble_eq_true rfl) rfl ?_
                  dsimp only [lset, lset2, List.set, List.getElem?_cons_zero, List.getElem?_cons_succ]
                  refine wp_iload_n (pc' := 32) rfl rfl rfl ?_
                  refine wp_if_ge (pc' := 35) (pt := 37) rfl rfl rfl (fun q_336 => ?_) (fun q_336 => absurd (by decide) q_336)
                  refine wp_aload_n (pc' := 38) rfl rfl rfl (by decide) ?_
                  refine wp_getI (ci := 10) (k0 := 23) (pc' := 41) rfl rfl (by decide) (by first | assumption | rfl) ?_
                  refine wp_iload_n (pc' := 42) rfl rfl rfl ?_
                  refine wp_iadd (pc' := 43) rfl rfl (by first | exact w32_id (by omega) (by omega) | rfl) ?_
                  refine wp_bipush (a := 40) (pc' := 45) rfl rfl rfl ?_
                  refine wp_icmp_le (pc' := 48) (pt := 51) rfl rfl rfl (fun q_337 => ?_) (fun q_337 => ?_)
                  · skip
                    refine wp_iload_n (pc' := 52) rfl rfl rfl ?_
                    refine wp_i2l (pc' := 53) rfl rfl ?_
                    refine wp_lstore (pc' := 55) rfl rfl (Nat.le_of_ble_eq_true rfl) rfl ?_
                    dsimp only [lset, lset2, List.set, List.getElem?_cons_zero, List.getElem?_cons_succ]
                    refine wp_iconst (a := 0) (pc' := 56) rfl rfl rfl ?_
                    refine wp_istore (pc' := 58) rfl rfl (Nat.le_of_ble_eq_true rfl) rfl ?_
                    dsimp only [lset, lset2, List.set, List.getElem?_cons_zero, List.getElem?_cons_succ]
                    refine (l_Mlots hT1 hp1 hx1 (by rw [er 109 (by decide), m1]; exact hpr.2.2.2.1) (by rw [er 109 (by decide), er 100 (by decide), m2, m23]; omega) (by omega) (by omega) (by omega) n.toNat 0 seed 0 w1 _ rfl (by omega) rfl (MX.zero rfl)).mono (fun v w2 hq2 => ?_)
                    obtain ⟨hv2, hL2⟩ := hq2
                    have hXY : ∀ j, (dN (w1 100 11) (w1 100 12) (w1 100 10) (w1 107) (fun i => w1 109 (3 + i)) (w1 108) seed (w1 109 0, w1 109 1, w1 109 2)) j = (dN (w 3 0) (w 3 1) (w 3 2) (w 4) (w 5) (w 6) seed (w 3 3, w 3 4, w 3 5)) j := fun j => by
                      rw [er 100 (by decide), er 107 (by decide), er 108 (by decide), er 109 (by decide), b11, b12, b10, m0, m1, m2]
                      exact dN_congr (fun j a b => hpr.2.2.2.2 j a b) j
                    have hed := lots_end hI hn0 (by omega) hL1 hL2 hXY (fun j _ => @dN_ok _ _ (w 3 2) seed (w 4) (w 5) (w 6) (w 3 3, w 3 4, w 3 5) (w 3 6) hpr.1.1 hpr.2.2.1 hpr.2.2.2.1 (by show 0 ≤ w 3 5 ∧ w 3 5 ≤ w 3 6; omega) (fun j a b => (hpr.1.2.2 j a b).2.2) j)
                    exact ⟨by rw [hv2, hXY], hed.1, hed.2⟩
                  · skip
                    refine wp_bipush (a := -2) (pc' := 50) rfl rfl rfl ?_
                    refine wp_ret rfl rfl rfl ?_
                    first
                    | (exfalso; omega)
                    | exact ⟨rfl, rfl, hI⟩
            · skip
              refine wp_bipush (a := -2) (pc' := 54) rfl rfl rfl ?_
              refine wp_ret rfl rfl rfl ?_
              refine ⟨_, rfl, ?_, ?_⟩
              · rfl
              refine wp_aload_n (pc' := 1) rfl rfl rfl (by decide) ?_
              refine wp_iload_n (pc' := 2) rfl rfl rfl ?_
              refine wp_iconst (a := 1) (pc' := 3) rfl rfl rfl ?_
              refine wp_bipush (a := 20) (pc' := 5) rfl rfl rfl ?_
              refine wp_call (pc' := 8) rfl rfl rfl rfl rfl ⟨Nat.le_of_ble_eq_true rfl, Nat.le_of_ble_eq_true rfl, Nat.le_of_ble_eq_true rfl, Nat.le_of_ble_eq_true rfl, Nat.le_of_ble_eq_true rfl⟩ rfl (c_Mod_in) ?_
              rintro v1 w9 ⟨hw9, ⟨hv1, hin⟩ | ⟨hv1, hin⟩⟩
              · skip
                rw [hv1, hw9]
                clear hv1 hw9 v1 w9
                dsimp only [Option.toList, List.cons_append, List.nil_append, List.append_nil]
                refine wp_if_eq (pc' := 11) (pt := 26) rfl rfl rfl (fun q_388 => absurd q_388 (by decide)) (fun q_388 => ?_)
                refine wp_iload_n (pc' := 12) rfl rfl rfl ?_
                refine wp_iconst (a := 1) (pc' := 13) rfl rfl rfl ?_
                refine wp_ldc_w (a := 2147483646) (pc' := 16) rfl rfl rfl ?_
                refine wp_call (pc' := 19) rfl rfl rfl rfl rfl ⟨Nat.le_of_ble_eq_true rfl, Nat.le_of_ble_eq_true rfl, Nat.le_of_ble_eq_true rfl, Nat.le_of_ble_eq_true rfl, Nat.le_of_ble_eq_true rfl⟩ rfl (c_Mod_in) ?_
                rintro v1 w9 ⟨hw9, ⟨hv1, hin⟩ | ⟨hv1, hin⟩⟩
                · skip
                  rw [hv1, hw9]
                  clear hv1 hw9 v1 w9
                  dsimp only [Option.toList, List.cons_append, List.nil_append, List.append_nil]
                  refine wp_if_eq (pc' := 22) (pt := 26) rfl rfl rfl (fun q_389 => absurd q_389 (by decide)) (fun q_389 => ?_)
                  refine wp_iconst (a := 1) (pc' := 23) rfl rfl rfl ?_
                  refine wp_goto (pc' := 27) rfl rfl ?_
                  refine wp_call (pc' := 30) rfl rfl rfl rfl rfl ⟨Nat.le_of_ble_eq_true rfl, Nat.le_of_ble_eq_true rfl, Nat.le_of_ble_eq_true rfl, Nat.le_of_ble_eq_true rfl, Nat.le_of_ble_eq_true rfl⟩ rfl (c_Mod_need (by decide)) ?_
                  rintro v1 w9 ⟨hw9, ⟨hv1, hg1⟩ | ⟨hv1, hg1, hg2⟩ | ⟨hv1, hg1, hg2⟩⟩
                  · skip
                    rw [hv1, hw9]
                    clear hv1 hw9 v1 w9
                    dsimp only [Option.toList, List.cons_append, List.nil_append, List.append_nil]
                    refine wp_istore_n (pc' := 31) rfl rfl (Nat.le_of_ble_eq_true rfl) rfl ?_
                    dsimp only [lset, lset2, List.set, List.getElem?_cons_zero, List.getElem?_cons_succ]
                    refine wp_iload_n (pc' := 32) rfl rfl rfl ?_
                    refine wp_if_ge (pc' := 35) (pt := 37) rfl rfl rfl (fun q_390 => absurd q_390 (by decide)) (fun q_390 => ?_)
                    refine wp_iload_n (pc' := 36) rfl rfl rfl ?_
                    refine wp_ret rfl rfl rfl ?_
                    first
                    | (exfalso; omega)
                    | exact ⟨rfl, rfl, hI⟩
                  · skip
                    rw [hv1, hw9]
                    clear hv1 hw9 v1 w9
                    dsimp only [Option.toList, List.cons_append, List.nil_append, List.append_nil]
                    refine wp_istore_n (pc' := 31) rfl rfl (Nat.le_of_ble_eq_true rfl) rfl ?_
                    dsimp only [lset, lset2, List.set, List.getElem?_cons_zero, List.getElem?_cons_succ]
                    refine wp_iload_n (pc' := 32) rfl rfl rfl ?_
                    refine wp_if_ge (pc' := 35) (pt := 37) rfl rfl rfl (fun q_391 => absurd q_391 (by decide)) (fun q_391 => ?_)
                    refine wp_iload_n (pc' := 36) rfl rfl rfl ?_
                    refine wp_ret rfl rfl rfl ?_
                    first
                    | (exfalso; omega)
                    | exact ⟨rfl, rfl, hI⟩
                  · skip
                    rw [hv1, hw9]
                    clear hv1 hw9 v1 w9
                    dsimp only [Option.toList, List.cons_append, List.nil_append, List.append_nil]
                    refine wp_istore_n (pc' := 31) rfl rfl (Nat.le_of_ble_eq_true rfl) rfl ?_
                    dsimp only [lset, lset2, List.set, List.getElem?_cons_zero, List.getElem?_cons_succ]
                    refine wp_iload_n (pc' := 32) rfl rfl rfl ?_
                    refine wp_if_ge (pc' := 35) (pt := 37) rfl rfl rfl (fun q_392 => ?_) (fun q_392 => absurd (by decide) q_392)
                    refine wp_aload_n (pc' := 38) rfl rfl rfl (by decide) ?_
                    refine wp_getI (ci := 10) (k0 := 23) (pc' := 41) rfl rfl (by decide) (by first | assumption | rfl) ?_
                    refine wp_iload_n (pc' := 42) rfl rfl rfl ?_
                    refine wp_iadd (pc' := 43) rfl rfl (by first | exact w32_id (by omega) (by omega) | rfl) ?_
                    refine wp_bipush (a := 40) (pc' := 45) rfl rfl rfl ?_
                    refine wp_icmp_le (pc' := 48) (pt := 51) rfl rfl rfl (fun q_393 => ?_) (fun q_393 => ?_)
                    · skip
                      exfalso; omega
                    · skip
                      refine wp_bipush (a := -2) (pc' := 50) rfl rfl rfl ?_
                      refine wp_ret rfl rfl rfl ?_
                      first
                      | (exfalso; omega)
                      | exact ⟨rfl, rfl, hI⟩
                · skip
                  rw [hv1, hw9]
                  clear hv1 hw9 v1 w9
                  dsimp only [Option.toList, List.cons_append, List.nil_append, List.append_nil]
                  refine wp_if_eq (pc' := 22) (pt := 26) rfl rfl rfl (fun q_394 => ?_) (fun q_394 => absurd (by decide) q_394)
                  refine wp_iconst (a := 0) (pc' := 27) rfl rfl rfl ?_
                  refine wp_call (pc' := 30) rfl rfl rfl rfl rfl ⟨Nat.le_of_ble_eq_true rfl, Nat.le_of_ble_eq_true rfl, Nat.le_of_ble_eq_true rfl, Nat.le_of_ble_eq_true rfl, Nat.le_of_ble_eq_true rfl⟩ rfl (c_Mod_need (by decide)) ?_
                  rintro v1 w9 ⟨hw9, ⟨hv1, hg1⟩ | ⟨hv1, hg1, hg2⟩ | ⟨hv1, hg1, hg2⟩⟩
                  · skip
                    rw [hv1, hw9]
                    clear hv1 hw9 v1 w9
                    dsimp only [Option.toList, List.cons_append, List.nil_append, List.append_nil]
                    refine wp_istore_n (pc' := 31) rfl rfl (Nat.le_of_ble_eq_true rfl) rfl ?_
                    dsimp only [lset, lset2, List.set, List.getElem?_cons_zero, List.getElem?_cons_succ]
                    refine wp_iload_n (pc' := 32) rfl rfl rfl ?_
                    refine wp_if_ge (pc' := 35) (pt := 37) rfl rfl rfl (fun q_395 => absurd q_395 (by decide)) (fun q_395 => ?_)
                    refine wp_iload_n (pc' := 36) rfl rfl rfl ?_
                    refine wp_ret rfl rfl rfl ?_
                    first
                    | (exfalso; omega)
                    | exact ⟨rfl, rfl, hI⟩
                  · skip
                    rw [hv1, hw9]
                    clear hv1 hw9 v1 w9
                    dsimp only [Option.toList, List.cons_append, List.nil_append, List.append_nil]
                    refine wp_istore_n (pc' := 31) rfl rfl (Nat.le_of_ble_eq_true rfl) rfl ?_
                    dsimp only [lset, lset2, List.set, List.getElem?_cons_zero, List.getElem?_cons_succ]
                    refine wp_iload_n (pc' := 32) rfl rfl rfl ?_
                    refine wp_if_ge (pc' := 35) (pt := 37) rfl rfl rfl (fun q_396 => absurd q_396 (by decide)) (fun q_396 => ?_)
                    refine wp_iload_n (pc' := 36) rfl rfl rfl ?_
                    refine wp_ret rfl rfl rfl ?_
                    first
                    | (exfalso; omega)
                    | exact ⟨rfl, rfl, hI⟩
                  · skip
                    rw [hv1, hw9]
                    clear hv1 hw9 v1 w9
                    dsimp only [Option.toList, List.cons_append, List.nil_append, List.append_nil]
                    refine wp_istore_n (pc' := 31) rfl rfl (Nat.le_of_ble_eq_true rfl) rfl ?_
                    dsimp only [lset, lset2, List.set, List.getElem?_cons_zero, List.getElem?_cons_succ]
                    refine wp_iload_n (pc' := 32) rfl rfl rfl ?_
                    refine wp_if_ge (pc' := 35) (pt := 37) rfl rfl rfl (fun q_397 => ?_) (fun q_397 => absurd (by decide) q_397)
                    refine wp_aload_n (pc' := 38) rfl rfl rfl (by decide) ?_
                    refine wp_getI (ci := 10) (k0 := 23) (pc' := 41) rfl rfl (by decide) (by first | assumption | rfl) ?_
                    refine wp_iload_n (pc' := 42) rfl rfl rfl ?_
                    refine wp_iadd (pc' := 43) rfl rfl (by first | exact w32_id (by omega) (by omega) | rfl) ?_
                    refine wp_bipush (a := 40) (pc' := 45) rfl rfl rfl ?_
                    refine wp_icmp_le (pc' := 48) (pt := 51) rfl rfl rfl (fun q_398 => ?_) (fun q_398 => ?_)
                    · skip
                      exfalso; omega
                    · skip
                      refine wp_bipush (a := -2) (pc' := 50) rfl rfl rfl ?_
                      refine wp_ret rfl rfl rfl ?_
                      first
                      | (exfalso; omega)
                      | exact ⟨rfl, rfl, hI⟩
              · skip
                rw [hv1, hw9]
                clear hv1 hw9 v1 w9
                dsimp only [Option.toList, List.cons_append, List.nil_append, List.append_nil]
                refine wp_if_eq (pc' := 11) (pt := 26) rfl rfl rfl (fun q_399 => ?_) (fun q_399 => absurd (by decide) q_399)
                refine wp_iconst (a := 0) (pc' := 27) rfl rfl rfl ?_
                refine wp_call (pc' := 30) rfl rfl rfl rfl rfl ⟨Nat.le_of_ble_eq_true rfl, Nat.le_of_ble_eq_true rfl, Nat.le_of_ble_eq_true rfl, Nat.le_of_ble_eq_true rfl, Nat.le_of_ble_eq_true rfl⟩ rfl (c_Mod_need (by decide)) ?_
                rintro v1 w9 ⟨hw9, ⟨hv1, hg1⟩ | ⟨hv1, hg1, hg2⟩ | ⟨hv1, hg1, hg2⟩⟩
                · skip
                  rw [hv1, hw9]
                  clear hv1 hw9 v1 w9
                  dsimp only [Option.toList, List.cons_append, List.nil_append, List.append_nil]
                  refine wp_istore_n (pc' := 31) rfl rfl (Nat.le_of_ble_eq_true rfl) rfl ?_
                  dsimp only [lset, lset2, List.set, List.getElem?_cons_zero, List.getElem?_cons_succ]
                  refine wp_iload_n (pc' := 32) rfl rfl rfl ?_
                  refine wp_if_ge (pc' := 35) (pt := 37) rfl rfl rfl (fun q_400 => absurd q_400 (by decide)) (fun q_400 => ?_)
                  refine wp_iload_n (pc' := 36) rfl rfl rfl ?_
                  refine wp_ret rfl rfl rfl ?_
                  first
                  | (exfalso; omega)
                  | exact ⟨rfl, rfl, hI⟩
                · skip
                  rw [hv1, hw9]
                  clear hv1 hw9 v1 w9
                  dsimp only [Option.toList, List.cons_append, List.nil_append, List.append_nil]
                  refine wp_istore_n (pc' := 31) rfl rfl (Nat.le_of_ble_eq_true rfl) rfl ?_
                  dsimp only [lset, lset2, List.set, List.getElem?_cons_zero, List.getElem?_cons_succ]
                  refine wp_iload_n (pc' := 32) rfl rfl rfl ?_
                  refine wp_if_ge (pc' := 35) (pt := 37) rfl rfl rfl (fun q_401 => absurd q_401 (by decide)) (fun q_401 => ?_)
                  refine wp_iload_n (pc' := 36) rfl rfl rfl ?_
                  refine wp_ret rfl rfl rfl ?_
                  first
                  | (exfalso; omega)
                  | exact ⟨rfl, rfl, hI⟩
                · skip
                  rw [hv1, hw9]
                  clear hv1 hw9 v1 w9
                  dsimp only [Option.toList, List.cons_append, List.nil_append, List.append_nil]
                  refine wp_istore_n (pc' := 31) rfl rfl (Nat.le_of_ble_eq_true rfl) rfl ?_
                  dsimp only [lset, lset2, List.set, List.getElem?_cons_zero, List.getElem?_cons_succ]
                  refine wp_iload_n (pc' := 32) rfl rfl rfl ?_
                  refine wp_if_ge (pc' := 35) (pt := 37) rfl rfl rfl (fun q_402 => ?_) (fun q_402 => absurd (by decide) q_402)
                  refine wp_aload_n (pc' := 38) rfl rfl rfl (by decide) ?_
                  refine wp_getI (ci := 10) (k0 := 23) (pc' := 41) rfl rfl (by decide) (by first | assumption | rfl) ?_
                  refine wp_iload_n (pc' := 42) rfl rfl rfl ?_
                  refine wp_iadd (pc' := 43) rfl rfl (by first | exact w32_id (by omega) (by omega) | rfl) ?_
                  refine wp_bipush (a := 40) (pc' := 45) rfl rfl rfl ?_
                  refine wp_icmp_le (pc' := 48) (pt := 51) rfl rfl rfl (fun q_403 => ?_) (fun q_403 => ?_)
                  · skip
                    exfalso; omega
                  · skip
                    refine wp_bipush (a := -2) (pc' := 50) rfl rfl rfl ?_
                    refine wp_ret rfl rfl rfl ?_
                    first
                    | (exfalso; omega)
                    | exact ⟨rfl, rfl, hI⟩
        · skip
          refine wp_iconst (a := -1) (pc' := 24) rfl rfl rfl ?_
          refine wp_ret rfl rfl rfl ?_
          refine ⟨_, rfl, ?_, ?_⟩
          · rfl
          refine wp_aload_n (pc' := 1) rfl rfl rfl (by decide) ?_
          refine wp_iload_n (pc' := 2) rfl rfl rfl ?_
          refine wp_iconst (a := 1) (pc' := 3) rfl rfl rfl ?_
          refine wp_bipush (a := 20) (pc' := 5) rfl rfl rfl ?_
          refine wp_call (pc' := 8) rfl rfl rfl rfl rfl ⟨Nat.le_of_ble_eq_true rfl, Nat.le_of_ble_eq_true rfl, Nat.le_of_ble_eq_true rfl, Nat.le_of_ble_eq_true rfl, Nat.le_of_ble_eq_true rfl⟩ rfl (c_Mod_in) ?_
          rintro v1 w9 ⟨hw9, ⟨hv1, hin⟩ | ⟨hv1, hin⟩⟩
          · skip
            rw [hv1, hw9]
            clear hv1 hw9 v1 w9
            dsimp only [Option.toList, List.cons_append, List.nil_append, List.append_nil]
            refine wp_if_eq (pc' := 11) (pt := 26) rfl rfl rfl (fun q_454 => absurd q_454 (by decide)) (fun q_454 => ?_)
            refine wp_iload_n (pc' := 12) rfl rfl rfl ?_
            refine wp_iconst (a := 1) (pc' := 13) rfl rfl rfl ?_
            refine wp_ldc_w (a := 2147483646) (pc' := 16) rfl rfl rfl ?_
            refine wp_call (pc' := 19) rfl rfl rfl rfl rfl ⟨Nat.le_of_ble_eq_true rfl, Nat.le_of_ble_eq_true rfl, Nat.le_of_ble_eq_true rfl, Nat.le_of_ble_eq_true rfl, Nat.le_of_ble_eq_true rfl⟩ rfl (c_Mod_in) ?_
            rintro v1 w9 ⟨hw9, ⟨hv1, hin⟩ | ⟨hv1, hin⟩⟩
            · skip
              rw [hv1, hw9]
              clear hv1 hw9 v1 w9
              dsimp only [Option.toList, List.cons_append, List.nil_append, List.append_nil]
              refine wp_if_eq (pc' := 22) (pt := 26) rfl rfl rfl (fun q_455 => absurd q_455 (by decide)) (fun q_455 => ?_)
              refine wp_iconst (a := 1) (pc' := 23) rfl rfl rfl ?_
              refine wp_goto (pc' := 27) rfl rfl ?_
              refine wp_call (pc' := 30) rfl rfl rfl rfl rfl ⟨Nat.le_of_ble_eq_true rfl, Nat.le_of_ble_eq_true rfl, Nat.le_of_ble_eq_true rfl, Nat.le_of_ble_eq_true rfl, Nat.le_of_ble_eq_true rfl⟩ rfl (c_Mod_need (by decide)) ?_
              rintro v1 w9 ⟨hw9, ⟨hv1, hg1⟩ | ⟨hv1, hg1, hg2⟩ | ⟨hv1, hg1, hg2⟩⟩
              · skip
                rw [hv1, hw9]
                clear hv1 hw9 v1 w9
                dsimp only [Option.toList, List.cons_append, List.nil_append, List.append_nil]
                refine wp_istore_n (pc' := 31) rfl rfl (Nat.le_of_ble_eq_true rfl) rfl ?_
                dsimp only [lset, lset2, List.set, List.getElem?_cons_zero, List.getElem?_cons_succ]
                refine wp_iload_n (pc' := 32) rfl rfl rfl ?_
                refine wp_if_ge (pc' := 35) (pt := 37) rfl rfl rfl (fun q_456 => absurd q_456 (by decide)) (fun q_456 => ?_)
                refine wp_iload_n (pc' := 36) rfl rfl rfl ?_
                refine wp_ret rfl rfl rfl ?_
                first
                | (exfalso; omega)
                | exact ⟨rfl, rfl, hI⟩
              · skip
                rw [hv1, hw9]
                clear hv1 hw9 v1 w9
                dsimp only [Option.toList, List.cons_append, List.nil_append, List.append_nil]
                refine wp_istore_n (pc' := 31) rfl rfl (Nat.le_of_ble_eq_true rfl) rfl ?_
                dsimp only [lset, lset2, List.set, List.getElem?_cons_zero, List.getElem?_cons_succ]
                refine wp_iload_n (pc' := 32) rfl rfl rfl ?_
                refine wp_if_ge (pc' := 35) (pt := 37) rfl rfl rfl (fun q_457 => absurd q_457 (by decide)) (fun q_457 => ?_)
                refine wp_iload_n (pc' := 36) rfl rfl rfl ?_
                refine wp_ret rfl rfl rfl ?_
                first
                | (exfalso; omega)
                | exact ⟨rfl, rfl, hI⟩
              · skip
                rw [hv1, hw9]
                clear hv1 hw9 v1 w9
                dsimp only [Option.toList, List.cons_append, List.nil_append, List.append_nil]
                refine wp_istore_n (pc' := 31) rfl rfl (Nat.le_of_ble_eq_true rfl) rfl ?_
                dsimp only [lset, lset2, List.set, List.getElem?_cons_zero, List.getElem?_cons_succ]
                refine wp_iload_n (pc' := 32) rfl rfl rfl ?_
                refine wp_if_ge (pc' := 35) (pt := 37) rfl rfl rfl (fun q_458 => ?_) (fun q_458 => absurd (by decide) q_458)
                refine wp_aload_n (pc' := 38) rfl rfl rfl (by decide) ?_
                refine wp_getI (ci := 10) (k0 := 23) (pc' := 41) rfl rfl (by decide) (by first | assumption | rfl) ?_
                refine wp_iload_n (pc' := 42) rfl rfl rfl ?_
                refine wp_iadd (pc' := 43) rfl rfl (by first | exact w32_id (by omega) (by omega) | rfl) ?_
                refine wp_bipush (a := 40) (pc' := 45) rfl rfl rfl ?_
                refine wp_icmp_le (pc' := 48) (pt := 51) rfl rfl rfl (fun q_459 => ?_) (fun q_459 => ?_)
                · skip
                  exfalso; omega
                · skip
                  refine wp_bipush (a := -2) (pc' := 50) rfl rfl rfl ?_
                  refine wp_ret rfl rfl rfl ?_
                  first
                  | (exfalso; omega)
                  | exact ⟨rfl, rfl, hI⟩
            · skip
              rw [hv1, hw9]
              clear hv1 hw9 v1 w9
              dsimp only [Option.toList, List.cons_append, List.nil_append, List.append_nil]
              refine wp_if_eq (pc' := 22) (pt := 26) rfl rfl rfl (fun q_460 => ?_) (fun q_460 => absurd (by decide) q_460)
              refine wp_iconst (a := 0) (pc' := 27) rfl rfl rfl ?_
              refine wp_call (pc' := 30) rfl rfl rfl rfl rfl ⟨Nat.le_of_ble_eq_true rfl, Nat.le_of_ble_eq_true rfl, Nat.le_of_ble_eq_true rfl, Nat.le_of_ble_eq_true rfl, Nat.le_of_ble_eq_true rfl⟩ rfl (c_Mod_need (by decide)) ?_
              rintro v1 w9 ⟨hw9, ⟨hv1, hg1⟩ | ⟨hv1, hg1, hg2⟩ | ⟨hv1, hg1, hg2⟩⟩
              · skip
                rw [hv1, hw9]
                clear hv1 hw9 v1 w9
                dsimp only [Option.toList, List.cons_append, List.nil_append, List.append_nil]
                refine wp_istore_n (pc' := 31) rfl rfl (Nat.le_of_ble_eq_true rfl) rfl ?_
                dsimp only [lset, lset2, List.set, List.getElem?_cons_zero, List.getElem?_cons_succ]
                refine wp_iload_n (pc' := 32) rfl rfl rfl ?_
                refine wp_if_ge (pc' := 35) (pt := 37) rfl rfl rfl (fun q_461 => absurd q_461 (by decide)) (fun q_461 => ?_)
                refine wp_iload_n (pc' := 36) rfl rfl rfl ?_
                refine wp_ret rfl rfl rfl ?_
                first
                | (exfalso; omega)
                | exact ⟨rfl, rfl, hI⟩
              · skip
                rw [hv1, hw9]
                clear hv1 hw9 v1 w9
                dsimp only [Option.toList, List.cons_append, List.nil_append, List.append_nil]
                refine wp_istore_n (pc' := 31) rfl rfl (Nat.le_of_ble_eq_true rfl) rfl ?_
                dsimp only [lset, lset2, List.set, List.getElem?_cons_zero, List.getElem?_cons_succ]
                refine wp_iload_n (pc' := 32) rfl rfl rfl ?_
                refine wp_if_ge (pc' := 35) (pt := 37) rfl rfl rfl (fun q_462 => absurd q_462 (by decide)) (fun q_462 => ?_)
                refine wp_iload_n (pc' := 36) rfl rfl rfl ?_
                refine wp_ret rfl rfl rfl ?_
                first
                | (exfalso; omega)
                | exact ⟨rfl, rfl, hI⟩
              · skip
                rw [hv1, hw9]
                clear hv1 hw9 v1 w9
                dsimp only [Option.toList, List.cons_append, List.nil_append, List.append_nil]
                refine wp_istore_n (pc' := 31) rfl rfl (Nat.le_of_ble_eq_true rfl) rfl ?_
                dsimp only [lset, lset2, List.set, List.getElem?_cons_zero, List.getElem?_cons_succ]
                refine wp_iload_n (pc' := 32) rfl rfl rfl ?_
                refine wp_if_ge (pc' := 35) (pt := 37) rfl rfl rfl (fun q_463 => ?_) (fun q_463 => absurd (by decide) q_463)
                refine wp_aload_n (pc' := 38) rfl rfl rfl (by decide) ?_
                refine wp_getI (ci := 10) (k0 := 23) (pc' := 41) rfl rfl (by decide) (by first | assumption | rfl) ?_
                refine wp_iload_n (pc' := 42) rfl rfl rfl ?_
                refine wp_iadd (pc' := 43) rfl rfl (by first | exact w32_id (by omega) (by omega) | rfl) ?_
                refine wp_bipush (a := 40) (pc' := 45) rfl rfl rfl ?_
                refine wp_icmp_le (pc' := 48) (pt := 51) rfl rfl rfl (fun q_464 => ?_) (fun q_464 => ?_)
                · skip
                  exfalso; omega
                · skip
                  refine wp_bipush (a := -2) (pc' := 50) rfl rfl rfl ?_
                  refine wp_ret rfl rfl rfl ?_
                  first
                  | (exfalso; omega)
                  | exact ⟨rfl, rfl, hI⟩
          · skip
            rw [hv1, hw9]
            clear hv1 hw9 v1 w9
            dsimp only [Option.toList, List.cons_append, List.nil_append, List.append_nil]
            refine wp_if_eq (pc' := 11) (pt := 26) rfl rfl rfl (fun q_465 => ?_) (fun q_465 => absurd (by decide) q_465)
            refine wp_iconst (a := 0) (pc' := 27) rfl rfl rfl ?_
            refine wp_call (pc' := 30) rfl rfl rfl rfl rfl ⟨Nat.le_of_ble_eq_true rfl, Nat.le_of_ble_eq_true rfl, Nat.le_of_ble_eq_true rfl, Nat.le_of_ble_eq_true rfl, Nat.le_of_ble_eq_true rfl⟩ rfl (c_Mod_need (by decide)) ?_
            rintro v1 w9 ⟨hw9, ⟨hv1, hg1⟩ | ⟨hv1, hg1, hg2⟩ | ⟨hv1, hg1, hg2⟩⟩
            · skip
              rw [hv1, hw9]
              clear hv1 hw9 v1 w9
              dsimp only [Option.toList, List.cons_append, List.nil_append, List.append_nil]
              refine wp_istore_n (pc' := 31) rfl rfl (Nat.le_of_ble_eq_true rfl) rfl ?_
              dsimp only [lset, lset2, List.set, List.getElem?_cons_zero, List.getElem?_cons_succ]
              refine wp_iload_n (pc' := 32) rfl rfl rfl ?_
              refine wp_if_ge (pc' := 35) (pt := 37) rfl rfl rfl (fun q_466 => absurd q_466 (by decide)) (fun q_466 => ?_)
              refine wp_iload_n (pc' := 36) rfl rfl rfl ?_
              refine wp_ret rfl rfl rfl ?_
              first
              | (exfalso; omega)
              | exact ⟨rfl, rfl, hI⟩
            · skip
              rw [hv1, hw9]
              clear hv1 hw9 v1 w9
              dsimp only [Option.toList, List.cons_append, List.nil_append, List.append_nil]
              refine wp_istore_n (pc' := 31) rfl rfl (Nat.le_of_ble_eq_true rfl) rfl ?_
              dsimp only [lset, lset2, List.set, List.getElem?_cons_zero, List.getElem?_cons_succ]
              refine wp_iload_n (pc' := 32) rfl rfl rfl ?_
              refine wp_if_ge (pc' := 35) (pt := 37) rfl rfl rfl (fun q_467 => absurd q_467 (by decide)) (fun q_467 => ?_)
              refine wp_iload_n (pc' := 36) rfl rfl rfl ?_
              refine wp_ret rfl rfl rfl ?_
              first
              | (exfalso; omega)
              | exact ⟨rfl, rfl, hI⟩
            · skip
              rw [hv1, hw9]
              clear hv1 hw9 v1 w9
              dsimp only [Option.toList, List.cons_append, List.nil_append, List.append_nil]
              refine wp_istore_n (pc' := 31) rfl rfl (Nat.le_of_ble_eq_true rfl) rfl ?_
              dsimp only [lset, lset2, List.set, List.getElem?_cons_zero, List.getElem?_cons_succ]
              refine wp_iload_n (pc' := 32) rfl rfl rfl ?_
              refine wp_if_ge (pc' := 35) (pt := 37) rfl rfl rfl (fun q_468 => ?_) (fun q_468 => absurd (by decide) q_468)
              refine wp_aload_n (pc' := 38) rfl rfl rfl (by decide) ?_
              refine wp_getI (ci := 10) (k0 := 23) (pc' := 41) rfl rfl (by decide) (by first | assumption | rfl) ?_
              refine wp_iload_n (pc' := 42) rfl rfl rfl ?_
              refine wp_iadd (pc' := 43) rfl rfl (by first | exact w32_id (by omega) (by omega) | rfl) ?_
              refine wp_bipush (a := 40) (pc' := 45) rfl rfl rfl ?_
              refine wp_icmp_le (pc' := 48) (pt := 51) rfl rfl rfl (fun q_469 => ?_) (fun q_469 => ?_)
              · skip
                exfalso; omega
              · skip
                refine wp_bipush (a := -2) (pc' := 50) rfl rfl rfl ?_
                refine wp_ret rfl rfl rfl ?_
                first
                | (exfalso; omega)
                | exact ⟨rfl, rfl, hI⟩
