/-! kinds, next, test -/
set_option maxRecDepth 20000 in
set_option maxHeartbeats 4000000 in
theorem p_kinds {w : Hp} {d : Nat} {i : Int} {r : Int} (hI : Inv w) : WP SH (d + 9) 108 0 [some (vR 0), some (vI i), some (vI r), none] [] w (fun v0 w1 => ∃ a, v0 = some (vI a) ∧ w1 (-2) = w (-2) ∧ WP SH (d + 9) 213 0 [some (vR 100), some (vI i), some (vI r), none] [] w1 (fun v2 w2 => v2 = some (vI a) ∧ w2 (-2) = w1 (-2) ∧ Inv w2)) := by
  obtain ⟨hT, hRO, hIF, hITo, hIR, hIT, hIL, hIK⟩ := id hI
  obtain ⟨hn25, b11, b12, b10, hn6, hem, m0, m1, m2, m23, hyr, hdd, hpre⟩ := hI.base
  have hmm : w 100 11 * w 100 12 = w 3 0 * w 3 1 := by rw [b11, b12]
  refine wp_aload_n (pc' := 1) rfl rfl rfl (by decide) ?_
  refine wp_iload_n (pc' := 2) rfl rfl rfl ?_
  refine wp_iload_n (pc' := 3) rfl rfl rfl ?_
  refine wp_call (pc' := 6) rfl rfl rfl rfl rfl ⟨Nat.le_of_ble_eq_true rfl, Nat.le_of_ble_eq_true rfl, Nat.le_of_ble_eq_true rfl, Nat.le_of_ble_eq_true rfl, Nat.le_of_ble_eq_true rfl⟩ rfl (c_VH_kindPairs hT hn25 (fun a b => by have := hIR r a b; omega)) ?_
  rintro v1 w1 (⟨hv1, hp0, hw1⟩ | ⟨hv1, hp0, hp1, hw1⟩ | ⟨hv1, hp0, hp1, hp2, hw1⟩ | ⟨hv1, hp0, hp1, hp2, hp3, hw1⟩ | ⟨hv1, hp0, hp1, hp2, hp3, hw1⟩)
  · skip
    rw [hv1, hw1]
    clear hv1 hw1 v1 w1
    dsimp only [Option.toList, List.cons_append, List.nil_append, List.append_nil]
    refine wp_istore_n (pc' := 7) rfl rfl (Nat.le_of_ble_eq_true rfl) rfl ?_
    dsimp only [lset, lset2, List.set, List.getElem?_cons_zero, List.getElem?_cons_succ]
    refine wp_iload_n (pc' := 8) rfl rfl rfl ?_
    refine wp_if_eq (pc' := 11) (pt := 13) rfl rfl rfl (fun q_1 => absurd q_1 (by decide)) (fun q_1 => ?_)
    refine wp_iload_n (pc' := 12) rfl rfl rfl ?_
    refine wp_ret rfl rfl rfl ?_
    refine ⟨_, rfl, ?_, ?_⟩
    · rfl
    have e10 : w 100 10 = w 3 2 := b10
    have hz2 : 0 ≤ r → r < 6 → -1 ≤ w 102 r ∧ w 102 r ≤ 40 := fun a b => (hIR r a b).2.1
    have e25 : 0 ≤ w 100 11 * w 100 12 ∧ w 100 11 * w 100 12 ≤ 25 := by omega
    refine wp_aload_n (pc' := 1) rfl rfl rfl (by decide) ?_
    refine wp_iload_n (pc' := 2) rfl rfl rfl ?_
    refine wp_aload_n (pc' := 3) rfl rfl rfl (by decide) ?_
    refine wp_iload_n (pc' := 4) rfl rfl rfl ?_
    refine wp_call (pc' := 7) rfl rfl rfl rfl rfl ⟨Nat.le_of_ble_eq_true rfl, Nat.le_of_ble_eq_true rfl, Nat.le_of_ble_eq_true rfl, Nat.le_of_ble_eq_true rfl, Nat.le_of_ble_eq_true rfl⟩ rfl (c_Mod_isOne (by omega)) ?_
    rintro v1 w9 ⟨hw9, ⟨hv1, his⟩ | ⟨hv1, his⟩⟩
    · skip
      rw [hv1, hw9]
      clear hv1 hw9 v1 w9
      dsimp only [Option.toList, List.cons_append, List.nil_append, List.append_nil]
      refine wp_iconst (a := 1) (pc' := 8) rfl rfl rfl ?_
      refine wp_call (pc' := 11) rfl rfl rfl rfl rfl ⟨Nat.le_of_ble_eq_true rfl, Nat.le_of_ble_eq_true rfl, Nat.le_of_ble_eq_true rfl, Nat.le_of_ble_eq_true rfl, Nat.le_of_ble_eq_true rfl⟩ rfl (c_Mod_need_cells hT (by decide) hz2 e25) ?_
      rintro v1 w9 (⟨hv1, hm0, hw1⟩ | ⟨hv1, hm0, hm1, hw1⟩ | ⟨hv1, hm0, hm1, hm2, hw1⟩ | ⟨hv1, hm0, hm1, hm2, hm3, hw1⟩ | ⟨hv1, hm0, hm1, hm2, hm3, hw1⟩)
      · skip
        rw [hv1, hw1]
        clear hv1 hw1 v1 w9
        dsimp only [Option.toList, List.cons_append, List.nil_append, List.append_nil]
        refine wp_istore_n (pc' := 12) rfl rfl (Nat.le_of_ble_eq_true rfl) rfl ?_
        dsimp only [lset, lset2, List.set, List.getElem?_cons_zero, List.getElem?_cons_succ]
        refine wp_iload_n (pc' := 13) rfl rfl rfl ?_
        refine wp_if_ge (pc' := 16) (pt := 20) rfl rfl rfl (fun q_52 => absurd q_52 (by decide)) (fun q_52 => ?_)
        refine wp_iload_n (pc' := 17) rfl rfl rfl ?_
        refine wp_goto (pc' := 26) rfl rfl ?_
        refine wp_ret rfl rfl rfl ?_
        first
        | (exfalso; omega)
        | exact ⟨rfl, rfl, hI⟩
        | exact ⟨rfl, by unfold mW; rw [up_ne (by decide), up_ne (by decide)], refW_inv hI (by decide)⟩
        | exact ⟨by rw [hse], rfl, hI⟩
      · skip
        exfalso
        omega
      · skip
        exfalso
        omega
      · skip
        exfalso
        omega
      · skip
        exfalso
        omega
    · skip
      rw [hv1, hw9]
      clear hv1 hw9 v1 w9
      dsimp only [Option.toList, List.cons_append, List.nil_append, List.append_nil]
      refine wp_iconst (a := 1) (pc' := 8) rfl rfl rfl ?_
      refine wp_call (pc' := 11) rfl rfl rfl rfl rfl ⟨Nat.le_of_ble_eq_true rfl, Nat.le_of_ble_eq_true rfl, Nat.le_of_ble_eq_true rfl, Nat.le_of_ble_eq_true rfl, Nat.le_of_ble_eq_true rfl⟩ rfl (c_Mod_need_cells hT (by decide) hz2 e25) ?_
      rintro v1 w9 (⟨hv1, hm0, hw1⟩ | ⟨hv1, hm0, hm1, hw1⟩ | ⟨hv1, hm0, hm1, hm2, hw1⟩ | ⟨hv1, hm0, hm1, hm2, hm3, hw1⟩ | ⟨hv1, hm0, hm1, hm2, hm3, hw1⟩)
      · skip
        rw [hv1, hw1]
        clear hv1 hw1 v1 w9
        dsimp only [Option.toList, List.cons_append, List.nil_append, List.append_nil]
        refine wp_istore_n (pc' := 12) rfl rfl (Nat.le_of_ble_eq_true rfl) rfl ?_
        dsimp only [lset, lset2, List.set, List.getElem?_cons_zero, List.getElem?_cons_succ]
        refine wp_iload_n (pc' := 13) rfl rfl rfl ?_
        refine wp_if_ge (pc' := 16) (pt := 20) rfl rfl rfl (fun q_53 => absurd q_53 (by decide)) (fun q_53 => ?_)
        refine wp_iload_n (pc' := 17) rfl rfl rfl ?_
        refine wp_goto (pc' := 26) rfl rfl ?_
        refine wp_ret rfl rfl rfl ?_
        first
        | (exfalso; omega)
        | exact ⟨rfl, rfl, hI⟩
        | exact ⟨rfl, by unfold mW; rw [up_ne (by decide), up_ne (by decide)], refW_inv hI (by decide)⟩
        | exact ⟨by rw [hse], rfl, hI⟩
      · skip
        exfalso
        omega
      · skip
        exfalso
        omega
      · skip
        exfalso
        omega
      · skip
        exfalso
        omega
  · skip
    rw [hv1, hw1]
    clear hv1 hw1 v1 w1
    dsimp only [Option.toList, List.cons_append, List.nil_append, List.append_nil]
    refine wp_istore_n (pc' := 7) rfl rfl (Nat.le_of_ble_eq_true rfl) rfl ?_
    dsimp only [lset, lset2, List.set, List.getElem?_cons_zero, List.getElem?_cons_succ]
    refine wp_iload_n (pc' := 8) rfl rfl rfl ?_
    refine wp_if_eq (pc' := 11) (pt := 13) rfl rfl rfl (fun q_54 => absurd q_54 (by decide)) (fun q_54 => ?_)
    refine wp_iload_n (pc' := 12) rfl rfl rfl ?_
    refine wp_ret rfl rfl rfl ?_
    refine ⟨_, rfl, ?_, ?_⟩
    · rw [refW_ne (by decide) (by decide)]
    have hTr := refW_stc (f := 1) hT
    have ew : ∀ q : Int, q ≠ 0 → q ≠ 52 → refW w 1 q = w q := fun q a b => refW_ne a b
    have e10 : refW w 1 100 10 = w 3 2 := by rw [ew 100 (by decide) (by decide), b10]
    have e25 : 0 ≤ refW w 1 100 11 * refW w 1 100 12 ∧ refW w 1 100 11 * refW w 1 100 12 ≤ 25 := by rw [ew 100 (by decide) (by decide)]; omega
    have hirr := hIR r hp0.2.1 hp0.2.2
    have hz2 : 0 ≤ r → r < 6 → -1 ≤ refW w 1 102 r ∧ refW w 1 102 r ≤ 40 := fun a b => by rw [ew 102 (by decide) (by decide)]; exact hirr.2.1
    have e102 : refW w 1 102 r = w (53 + 2 * r) 1 := by rw [ew 102 (by decide) (by decide)]; exact hirr.1.symm
    have hwe : 0 ≤ w (53 + 2 * r) 1 → wellN (fun j => refW w 1 103 (40 * r + j)) (refW w 1 100 11 * refW w 1 100 12) (refW w 1 102 r / 2).toNat = wellN (w (54 + 2 * r)) (w 3 0 * w 3 1) (w (53 + 2 * r) 1 / 2).toNat := fun hnn => by
      rw [ew 100 (by decide) (by decide), ew 102 (by decide) (by decide), ew 103 (by decide) (by decide), hirr.1, b11, b12]
      exact wellN_congr (fun j a b => (hirr.2.2 j a (by omega)).1.symm)
    refine wp_aload_n (pc' := 1) rfl rfl rfl (by decide) ?_
    refine wp_iload_n (pc' := 2) rfl rfl rfl ?_
    refine wp_aload_n (pc' := 3) rfl rfl rfl (by decide) ?_
    refine wp_iload_n (pc' := 4) rfl rfl rfl ?_
    refine wp_call (pc' := 7) rfl rfl rfl rfl rfl ⟨Nat.le_of_ble_eq_true rfl, Nat.le_of_ble_eq_true rfl, Nat.le_of_ble_eq_true rfl, Nat.le_of_ble_eq_true rfl, Nat.le_of_ble_eq_true rfl⟩ rfl (c_Mod_isOne (by omega)) ?_
    rintro v1 w9 ⟨hw9, ⟨hv1, his⟩ | ⟨hv1, his⟩⟩
    · skip
      rw [hv1, hw9]
      clear hv1 hw9 v1 w9
      dsimp only [Option.toList, List.cons_append, List.nil_append, List.append_nil]
      refine wp_iconst (a := 1) (pc' := 8) rfl rfl rfl ?_
      refine wp_call (pc' := 11) rfl rfl rfl rfl rfl ⟨Nat.le_of_ble_eq_true rfl, Nat.le_of_ble_eq_true rfl, Nat.le_of_ble_eq_true rfl, Nat.le_of_ble_eq_true rfl, Nat.le_of_ble_eq_true rfl⟩ rfl (c_Mod_need_cells hTr (by decide) hz2 e25) ?_
      rintro v1 w9 (⟨hv1, hm0, hw1⟩ | ⟨hv1, hm0, hm1, hw1⟩ | ⟨hv1, hm0, hm1, hm2, hw1⟩ | ⟨hv1, hm0, hm1, hm2, hm3, hw1⟩ | ⟨hv1, hm0, hm1, hm2, hm3, hw1⟩)
      · skip
        exfalso
        omega
      · skip
        rw [hv1, hw1]
        clear hv1 hw1 v1 w9
        dsimp only [Option.toList, List.cons_append, List.nil_append, List.append_nil]
        refine wp_istore_n (pc' := 12) rfl rfl (Nat.le_of_ble_eq_true rfl) rfl ?_
        dsimp only [lset, lset2, List.set, List.getElem?_cons_zero, List.getElem?_cons_succ]
        refine wp_iload_n (pc' := 13) rfl rfl rfl ?_
        refine wp_if_ge (pc' := 16) (pt := 20) rfl rfl rfl (fun q_105 => absurd q_105 (by decide)) (fun q_105 => ?_)
        refine wp_iload_n (pc' := 17) rfl rfl rfl ?_
        refine wp_goto (pc' := 26) rfl rfl ?_
        refine wp_ret rfl rfl rfl ?_
        first
        | (exfalso; omega)
        | exact ⟨rfl, rfl, hI⟩
        | exact ⟨rfl, by unfold mW; rw [up_ne (by decide), up_ne (by decide)], refW_inv hI (by decide)⟩
        | exact ⟨by rw [hse], rfl, hI⟩
      · skip
        exfalso
        omega
      · skip
        exfalso
        omega
      · skip
        exfalso
        omega
    · skip
      rw [hv1, hw9]
      clear hv1 hw9 v1 w9
      dsimp only [Option.toList, List.cons_append, List.nil_append, List.append_nil]
      refine wp_iconst (a := 1) (pc' := 8) rfl rfl rfl ?_
      refine wp_call (pc' := 11) rfl rfl rfl rfl rfl ⟨Nat.le_of_ble_eq_true rfl, Nat.le_of_ble_eq_true rfl, Nat.le_of_ble_eq_true rfl, Nat.le_of_ble_eq_true rfl, Nat.le_of_ble_eq_true rfl⟩ rfl (c_Mod_need_cells hTr (by decide) hz2 e25) ?_
      rintro v1 w9 (⟨hv1, hm0, hw1⟩ | ⟨hv1, hm0, hm1, hw1⟩ | ⟨hv1, hm0, hm1, hm2, hw1⟩ | ⟨hv1, hm0, hm1, hm2, hm3, hw1⟩ | ⟨hv1, hm0, hm1, hm2, hm3, hw1⟩)
      · skip
        exfalso
        omega
      · skip
        rw [hv1, hw1]
        clear hv1 hw1 v1 w9
        dsimp only [Option.toList, List.cons_append, List.nil_append, List.append_nil]
        refine wp_istore_n (pc' := 12) rfl rfl (Nat.le_of_ble_eq_true rfl) rfl ?_
        dsimp only [lset, lset2, List.set, List.getElem?_cons_zero, List.getElem?_cons_succ]
        refine wp_iload_n (pc' := 13) rfl rfl rfl ?_
        refine wp_if_ge (pc' := 16) (pt := 20) rfl rfl rfl (fun q_106 => absurd q_106 (by decide)) (fun q_106 => ?_)
        refine wp_iload_n (pc' := 17) rfl rfl rfl ?_
        refine wp_goto (pc' := 26) rfl rfl ?_
        refine wp_ret rfl rfl rfl ?_
        first
        | (exfalso; omega)
        | exact ⟨rfl, rfl, hI⟩
        | exact ⟨rfl, by unfold mW; rw [up_ne (by decide), up_ne (by decide)], refW_inv hI (by decide)⟩
        | exact ⟨by rw [hse], rfl, hI⟩
      · skip
        exfalso
        omega
      · skip
        exfalso
        omega
      · skip
        exfalso
        omega
  · skip
    rw [hv1, hw1]
    clear hv1 hw1 v1 w1
    dsimp only [Option.toList, List.cons_append, List.nil_append, List.append_nil]
    refine wp_istore_n (pc' := 7) rfl rfl (Nat.le_of_ble_eq_true rfl) rfl ?_
    dsimp only [lset, lset2, List.set, List.getElem?_cons_zero, List.getElem?_cons_succ]
    refine wp_iload_n (pc' := 8) rfl rfl rfl ?_
    refine wp_if_eq (pc' := 11) (pt := 13) rfl rfl rfl (fun q_107 => absurd q_107 (by decide)) (fun q_107 => ?_)
    refine wp_iload_n (pc' := 12) rfl rfl rfl ?_
    refine wp_ret rfl rfl rfl ?_
    refine ⟨_, rfl, ?_, ?_⟩
    · rw [refW_ne (by decide) (by decide)]
    have hTr := refW_stc (f := 5) hT
    have ew : ∀ q : Int, q ≠ 0 → q ≠ 52 → refW w 5 q = w q := fun q a b => refW_ne a b
    have e10 : refW w 5 100 10 = w 3 2 := by rw [ew 100 (by decide) (by decide), b10]
    have e25 : 0 ≤ refW w 5 100 11 * refW w 5 100 12 ∧ refW w 5 100 11 * refW w 5 100 12 ≤ 25 := by rw [ew 100 (by decide) (by decide)]; omega
    have hirr := hIR r hp0.2.1 hp0.2.2
    have hz2 : 0 ≤ r → r < 6 → -1 ≤ refW w 5 102 r ∧ refW w 5 102 r ≤ 40 := fun a b => by rw [ew 102 (by decide) (by decide)]; exact hirr.2.1
    have e102 : refW w 5 102 r = w (53 + 2 * r) 1 := by rw [ew 102 (by decide) (by decide)]; exact hirr.1.symm
    have hwe : 0 ≤ w (53 + 2 * r) 1 → wellN (fun j => refW w 5 103 (40 * r + j)) (refW w 5 100 11 * refW w 5 100 12) (refW w 5 102 r / 2).toNat = wellN (w (54 + 2 * r)) (w 3 0 * w 3 1) (w (53 + 2 * r) 1 / 2).toNat := fun hnn => by
      rw [ew 100 (by decide) (by decide), ew 102 (by decide) (by decide), ew 103 (by decide) (by decide), hirr.1, b11, b12]
      exact wellN_congr (fun j a b => (hirr.2.2 j a (by omega)).1.symm)
    refine wp_aload_n (pc' := 1) rfl rfl rfl (by decide) ?_
    refine wp_iload_n (pc' := 2) rfl rfl rfl ?_
    refine wp_aload_n (pc' := 3) rfl rfl rfl (by decide) ?_
    refine wp_iload_n (pc' := 4) rfl rfl rfl ?_
    refine wp_call (pc' := 7) rfl rfl rfl rfl rfl ⟨Nat.le_of_ble_eq_true rfl, Nat.le_of_ble_eq_true rfl, Nat.le_of_ble_eq_true rfl, Nat.le_of_ble_eq_true rfl, Nat.le_of_ble_eq_true rfl⟩ rfl (c_Mod_isOne (by omega)) ?_
    rintro v1 w9 ⟨hw9, ⟨hv1, his⟩ | ⟨hv1, his⟩⟩
    · skip
      rw [hv1, hw9]
      clear hv1 hw9 v1 w9
      dsimp only [Option.toList, List.cons_append, List.nil_append, List.append_nil]
      refine wp_iconst (a := 1) (pc' := 8) rfl rfl rfl ?_
      refine wp_call (pc' := 11) rfl rfl rfl rfl rfl ⟨Nat.le_of_ble_eq_true rfl, Nat.le_of_ble_eq_true rfl, Nat.le_of_ble_eq_true rfl, Nat.le_of_ble_eq_true rfl, Nat.le_of_ble_eq_true rfl⟩ rfl (c_Mod_need_cells hTr (by decide) hz2 e25) ?_
      rintro v1 w9 (⟨hv1, hm0, hw1⟩ | ⟨hv1, hm0, hm1, hw1⟩ | ⟨hv1, hm0, hm1, hm2, hw1⟩ | ⟨hv1, hm0, hm1, hm2, hm3, hw1⟩ | ⟨hv1, hm0, hm1, hm2, hm3, hw1⟩)
      · skip
        exfalso
        omega
      · skip
        exfalso
        omega
      · skip
        rw [hv1, hw1]
        clear hv1 hw1 v1 w9
        dsimp only [Option.toList, List.cons_append, List.nil_append, List.append_nil]
        refine wp_istore_n (pc' := 12) rfl rfl (Nat.le_of_ble_eq_true rfl) rfl ?_
        dsimp only [lset, lset2, List.set, List.getElem?_cons_zero, List.getElem?_cons_succ]
        refine wp_iload_n (pc' := 13) rfl rfl rfl ?_
        refine wp_if_ge (pc' := 16) (pt := 20) rfl rfl rfl (fun q_158 => absurd q_158 (by decide)) (fun q_158 => ?_)
        refine wp_iload_n (pc' := 17) rfl rfl rfl ?_
        refine wp_goto (pc' := 26) rfl rfl ?_
        refine wp_ret rfl rfl rfl ?_
        first
        | (exfalso; omega)
        | exact ⟨rfl, rfl, hI⟩
        | exact ⟨rfl, by unfold mW; rw [up_ne (by decide), up_ne (by decide)], refW_inv hI (by decide)⟩
        | exact ⟨by rw [hse], rfl, hI⟩
      · skip
        exfalso
        omega
      · skip
        exfalso
        omega
    · skip
      rw [hv1, hw9]
      clear hv1 hw9 v1 w9
      dsimp only [Option.toList, List.cons_append, List.nil_append, List.append_nil]
      refine wp_iconst (a := 1) (pc' := 8) rfl rfl rfl ?_
      refine wp_call (pc' := 11) rfl rfl rfl rfl rfl ⟨Nat.le_of_ble_eq_true rfl, Nat.le_of_ble_eq_true rfl, Nat.le_of_ble_eq_true rfl, Nat.le_of_ble_eq_true rfl, Nat.le_of_ble_eq_true rfl⟩ rfl (c_Mod_need_cells hTr (by decide) hz2 e25) ?_
      rintro v1 w9 (⟨hv1, hm0, hw1⟩ | ⟨hv1, hm0, hm1, hw1⟩ | ⟨hv1, hm0, hm1, hm2, hw1⟩ | ⟨hv1, hm0, hm1, hm2, hm3, hw1⟩ | ⟨hv1, hm0, hm1, hm2, hm3, hw1⟩)
      · skip
        exfalso
        omega
      · skip
        exfalso
        omega
      · skip
        rw [hv1, hw1]
        clear hv1 hw1 v1 w9
        dsimp only [Option.toList, List.cons_append, List.nil_append, List.append_nil]
        refine wp_istore_n (pc' := 12) rfl rfl (Nat.le_of_ble_eq_true rfl) rfl ?_
        dsimp only [lset, lset2, List.set, List.getElem?_cons_zero, List.getElem?_cons_succ]
        refine wp_iload_n (pc' := 13) rfl rfl rfl ?_
        refine wp_if_ge (pc' := 16) (pt := 20) rfl rfl rfl (fun q_159 => absurd q_159 (by decide)) (fun q_159 => ?_)
        refine wp_iload_n (pc' := 17) rfl rfl rfl ?_
        refine wp_goto (pc' := 26) rfl rfl ?_
        refine wp_ret rfl rfl rfl ?_
        first
        | (exfalso; omega)
        | exact ⟨rfl, rfl, hI⟩
        | exact ⟨rfl, by unfold mW; rw [up_ne (by decide), up_ne (by decide)], refW_inv hI (by decide)⟩
        | exact ⟨by rw [hse], rfl, hI⟩
      · skip
        exfalso
        omega
      · skip
        exfalso
        omega
  · skip
    rw [hv1, hw1]
    clear hv1 hw1 v1 w1
    dsimp only [Option.toList, List.cons_append, List.nil_append, List.append_nil]
    refine wp_istore_n (pc' := 7) rfl rfl (Nat.le_of_ble_eq_true rfl) rfl ?_
    dsimp only [lset, lset2, List.set, List.getElem?_cons_zero, List.getElem?_cons_succ]
    refine wp_iload_n (pc' := 8) rfl rfl rfl ?_
    refine wp_if_eq (pc' := 11) (pt := 13) rfl rfl rfl (fun q_160 => absurd q_160 (by decide)) (fun q_160 => ?_)
    refine wp_iload_n (pc' := 12) rfl rfl rfl ?_
    refine wp_ret rfl rfl rfl ?_
    refine ⟨_, rfl, ?_, ?_⟩
    · rw [refW_ne (by decide) (by decide)]
    have hTr := refW_stc (f := 3) hT
    have ew : ∀ q : Int, q ≠ 0 → q ≠ 52 → refW w 3 q = w q := fun q a b => refW_ne a b
    have e10 : refW w 3 100 10 = w 3 2 := by rw [ew 100 (by decide) (by decide), b10]
    have e25 : 0 ≤ refW w 3 100 11 * refW w 3 100 12 ∧ refW w 3 100 11 * refW w 3 100 12 ≤ 25 := by rw [ew 100 (by decide) (by decide)]; omega
    have hirr := hIR r hp0.2.1 hp0.2.2
    have hz2 : 0 ≤ r → r < 6 → -1 ≤ refW w 3 102 r ∧ refW w 3 102 r ≤ 40 := fun a b => by rw [ew 102 (by decide) (by decide)]; exact hirr.2.1
    have e102 : refW w 3 102 r = w (53 + 2 * r) 1 := by rw [ew 102 (by decide) (by decide)]; exact hirr.1.symm
    have hwe : 0 ≤ w (53 + 2 * r) 1 → wellN (fun j => refW w 3 103 (40 * r + j)) (refW w 3 100 11 * refW w 3 100 12) (refW w 3 102 r / 2).toNat = wellN (w (54 + 2 * r)) (w 3 0 * w 3 1) (w (53 + 2 * r) 1 / 2).toNat := fun hnn => by
      rw [ew 100 (by decide) (by decide), ew 102 (by decide) (by decide), ew 103 (by decide) (by decide), hirr.1, b11, b12]
      exact wellN_congr (fun j a b => (hirr.2.2 j a (by omega)).1.symm)
    refine wp_aload_n (pc' := 1) rfl rfl rfl (by decide) ?_
    refine wp_iload_n (pc' := 2) rfl rfl rfl ?_
    refine wp_aload_n (pc' := 3) rfl rfl rfl (by decide) ?_
    refine wp_iload_n (pc' := 4) rfl rfl rfl ?_
    refine wp_call (pc' := 7) rfl rfl rfl rfl rfl ⟨Nat.le_of_ble_eq_true rfl, Nat.le_of_ble_eq_true rfl, Nat.le_of_ble_eq_true rfl, Nat.le_of_ble_eq_true rfl, Nat.le_of_ble_eq_true rfl⟩ rfl (c_Mod_isOne (by omega)) ?_
    rintro v1 w9 ⟨hw9, ⟨hv1, his⟩ | ⟨hv1, his⟩⟩
    · skip
      rw [hv1, hw9]
      clear hv1 hw9 v1 w9
      dsimp only [Option.toList, List.cons_append, List.nil_append, List.append_nil]
      refine wp_iconst (a := 1) (pc' := 8) rfl rfl rfl ?_
      refine wp_call (pc' := 11) rfl rfl rfl rfl rfl ⟨Nat.le_of_ble_eq_true rfl, Nat.le_of_ble_eq_true rfl, Nat.le_of_ble_eq_true rfl, Nat.le_of_ble_eq_true rfl, Nat.le_of_ble_eq_true rfl⟩ rfl (c_Mod_need_cells hTr (by decide) hz2 e25) ?_
      rintro v1 w9 (⟨hv1, hm0, hw1⟩ | ⟨hv1, hm0, hm1, hw1⟩ | ⟨hv1, hm0, hm1, hm2, hw1⟩ | ⟨hv1, hm0, hm1, hm2, hm3, hw1⟩ | ⟨hv1, hm0, hm1, hm2, hm3, hw1⟩)
      · skip
        exfalso
        omega
      · skip
        exfalso
        omega
      · skip
        exfalso
        omega
      · skip
        rw [hv1, hw1]
        clear hv1 hw1 v1 w9
        dsimp only [Option.toList, List.cons_append, List.nil_append, List.append_nil]
        refine wp_istore_n (pc' := 12) rfl rfl (Nat.le_of_ble_eq_true rfl) rfl ?_
        dsimp only [lset, lset2, List.set, List.getElem?_cons_zero, List.getElem?_cons_succ]
        refine wp_iload_n (pc' := 13) rfl rfl rfl ?_
        refine wp_if_ge (pc' := 16) (pt := 20) rfl rfl rfl (fun q_211 => absurd q_211 (by decide)) (fun q_211 => ?_)
        refine wp_iload_n (pc' := 17) rfl rfl rfl ?_
        refine wp_goto (pc' := 26) rfl rfl ?_
        refine wp_ret rfl rfl rfl ?_
        first
        | (exfalso; omega)
        | exact ⟨rfl, rfl, hI⟩
        | exact ⟨rfl, by unfold mW; rw [up_ne (by decide), up_ne (by decide)], refW_inv hI (by decide)⟩
        | exact ⟨by rw [hse], rfl, hI⟩
      · skip
        exfalso
        omega
    · skip
      rw [hv1, hw9]
      clear hv1 hw9 v1 w9
      dsimp only [Option.toList, List.cons_append, List.nil_append, List.append_nil]
      refine wp_iconst (a := 1) (pc' := 8) rfl rfl rfl ?_
      refine wp_call (pc' := 11) rfl rfl rfl rfl rfl ⟨Nat.le_of_ble_eq_true rfl, Nat.le_of_ble_eq_true rfl, Nat.le_of_ble_eq_true rfl, Nat.le_of_ble_eq_true rfl, Nat.le_of_ble_eq_true rfl⟩ rfl (c_Mod_need_cells hTr (by decide) hz2 e25) ?_
      rintro v1 w9 (⟨hv1, hm0, hw1⟩ | ⟨hv1, hm0, hm1, hw1⟩ | ⟨hv1, hm0, hm1, hm2, hw1⟩ | ⟨hv1, hm0, hm1, hm2, hm3, hw1⟩ | ⟨hv1, hm0, hm1, hm2, hm3, hw1⟩)
      · skip
        exfalso
        omega
      · skip
        exfalso
        omega
      · skip
        exfalso
        omega
      · skip
        rw [hv1, hw1]
        clear hv1 hw1 v1 w9
        dsimp only [Option.toList, List.cons_append, List.nil_append, List.append_nil]
        refine wp_istore_n (pc' := 12) rfl rfl (Nat.le_of_ble_eq_true rfl) rfl ?_
        dsimp only [lset, lset2, List.set, List.getElem?_cons_zero, List.getElem?_cons_succ]
        refine wp_iload_n (pc' := 13) rfl rfl rfl ?_
        refine wp_if_ge (pc' := 16) (pt := 20) rfl rfl rfl (fun q_212 => absurd q_212 (by decide)) (fun q_212 => ?_)
        refine wp_iload_n (pc' := 17) rfl rfl rfl ?_
        refine wp_goto (pc' := 26) rfl rfl ?_
        refine wp_ret rfl rfl rfl ?_
        first
        | (exfalso; omega)
        | exact ⟨rfl, rfl, hI⟩
        | exact ⟨rfl, by unfold mW; rw [up_ne (by decide), up_ne (by decide)], refW_inv hI (by decide)⟩
        | exact ⟨by rw [hse], rfl, hI⟩
      · skip
        exfalso
        omega
  · skip
    rw [hv1, hw1]
    clear hv1 hw1 v1 w1
    have hstr := strip_row hT hp0.2.1 hp0.2.2
    have hs7r := hstr.1.1
    have hirr := hIR r hp0.2.1 hp0.2.2
    have hn0 : w 3 2 ≠ 0 := by omega
    have hpr := hpre hn0
    have hwl : ∀ q : Int, 0 ≤ q → q < w (53 + 2 * r) 1 / 2 → 0 ≤ w (54 + 2 * r) (2 * q) ∧ w (54 + 2 * r) (2 * q) < w 3 0 * w 3 1 := fun q a b => by
      have := wellN_at hp3 q a (by omega)
      exact ⟨this.1, this.2.1⟩
    dsimp only [Option.toList, List.cons_append, List.nil_append, List.append_nil]
    refine wp_istore_n (pc' := 7) rfl rfl (Nat.le_of_ble_eq_true rfl) rfl ?_
    dsimp only [lset, lset2, List.set, List.getElem?_cons_zero, List.getElem?_cons_succ]
    refine wp_iload_n (pc' := 8) rfl rfl rfl ?_
    refine wp_if_eq (pc' := 11) (pt := 13) rfl rfl rfl (fun q_213 => ?_) (fun q_213 => absurd (by decide) q_213)
    refine wp_aload_n (pc' := 14) rfl rfl rfl (by decide) ?_
    refine wp_getR (r' := 45) (ci := 9) (k0 := 9) (pc' := 17) rfl rfl (by decide) (by first | assumption | rfl) (hT.get 9 rfl) ?_
    refine wp_aload_n (pc' := 18) rfl rfl rfl (by decide) ?_
    refine wp_getR (r' := 3) (ci := 9) (k0 := 2) (pc' := 21) rfl rfl (by decide) (by first | assumption | rfl) (hT.get 2 rfl) ?_
    refine wp_iload_n (pc' := 22) rfl rfl rfl ?_
    refine wp_aload_n (pc' := 23) rfl rfl rfl (by decide) ?_
    refine wp_getR (r' := 1) (ci := 9) (k0 := 0) (pc' := 26) rfl rfl (by decide) (by first | assumption | rfl) (hT.get 0 rfl) ?_
    refine wp_iload_n (pc' := 27) rfl rfl rfl ?_
    refine wp_aaload (r' := (53 + 2 * r)) (pc' := 28) rfl rfl (by first | assumption | rfl) rfl (by omega) (hstr.2) ?_
    refine wp_call (pc' := 31) rfl rfl rfl rfl rfl ⟨Nat.le_of_ble_eq_true rfl, Nat.le_of_ble_eq_true rfl, Nat.le_of_ble_eq_true rfl, Nat.le_of_ble_eq_true rfl, Nat.le_of_ble_eq_true rfl⟩ rfl (c_Clues_fittingKinds hT hstr.1 (by omega) hp2 hpr.1 hwl hp0.1) ?_
    intro v1 w9 hq1
    rw [hq1.1, hq1.2]
    clear hq1 v1 w9
    dsimp only [Option.toList, List.cons_append, List.nil_append, List.append_nil]
    refine wp_ret rfl rfl rfl ?_
    refine ⟨_, rfl, ?_, ?_⟩
    · rfl
    have hQu : SameF w w LQ FQ := SameF.rf _ _ _
    obtain ⟨hT, hru, hlu, hmu, e3u, e4u, e5u, e6u, g11u, g12u, g10u, g7u, g8u, g9u, hxu⟩ := vw hI hn0 hQu
    have f102 : w 102 = w 102 := hQu.cell 102 (by decide) (by decide)
    have f103 : w 103 = w 103 := hQu.cell 103 (by decide) (by decide)
    have e10 : w 100 10 = w 3 2 := g10u
    have e25 : 0 ≤ w 100 11 * w 100 12 ∧ w 100 11 * w 100 12 ≤ 25 := by rw [g11u, g12u]; exact hn25
    have hz2 : 0 ≤ r → r < 6 → -1 ≤ w 102 r ∧ w 102 r ≤ 40 := fun a b => by rw [f102]; exact hirr.2.1
    have e102 : w 102 r = w (53 + 2 * r) 1 := by rw [f102]; exact hirr.1.symm
    have hwe : wellN (fun j => w 103 (40 * r + j)) (w 100 11 * w 100 12) (w 102 r / 2).toNat = wellN (w (54 + 2 * r)) (w 3 0 * w 3 1) (w (53 + 2 * r) 1 / 2).toNat := by
      rw [g11u, g12u, f102, f103, hirr.1]
      exact wellN_congr (fun j a b => (hirr.2.2 j a (by omega)).1.symm)
    have hrr : 0 ≤ r ∧ r < 6 := hp0.2
    have hzu : 0 ≤ w 102 r ∧ w 102 r ≤ 40 := by omega
    have heu : w 102 r % 2 = 0 := by omega
    have hwu : ∀ q : Int, 0 ≤ q → q < w 102 r / 2 → 0 ≤ w 103 (40 * r + 2 * q) ∧ w 103 (40 * r + 2 * q) < w 100 11 * w 100 12 := fun q a b => by
      have h1 := hwl q a (by omega)
      have h2 := (hirr.2.2 (2 * q) (by omega) (by omega)).1
      rw [f103, ← h2]
      rw [g11u, g12u]; exact h1
    have hse : orN (fun y => fitN (gKnd (w 100 11) (w 109 (3 + i)) y) (fun j => w 103 (40 * r + j)) (w 102 r / 2).toNat) (6 : Int).toNat = (orN (fun y => fitN (gKnd (w 3 0) (w 5 i) y) (w (54 + 2 * r)) (w (53 + 2 * r) 1 / 2).toNat) (6 : Int).toNat) := by
      rw [g11u, g9u, f102, f103, hirr.1, (hpr.2.2.2.2 i (by omega) (by omega)).2.1]
      exact orN_congr (fun y a b => fitN_congr (fun j c e => (hirr.2.2 j c (by omega)).1.symm) (fun q c e => rfl))
    refine wp_aload_n (pc' := 1) rfl rfl rfl (by decide) ?_
    refine wp_iload_n (pc' := 2) rfl rfl rfl ?_
    refine wp_aload_n (pc' := 3) rfl rfl rfl (by decide) ?_
    refine wp_iload_n (pc' := 4) rfl rfl rfl ?_
    refine wp_call (pc' := 7) rfl rfl rfl rfl rfl ⟨Nat.le_of_ble_eq_true rfl, Nat.le_of_ble_eq_true rfl, Nat.le_of_ble_eq_true rfl, Nat.le_of_ble_eq_true rfl, Nat.le_of_ble_eq_true rfl⟩ rfl (c_Mod_isOne (by omega)) ?_
    rintro v1 w9 ⟨hw9, ⟨hv1, his⟩ | ⟨hv1, his⟩⟩
    · skip
      rw [hv1, hw9]
      clear hv1 hw9 v1 w9
      dsimp only [Option.toList, List.cons_append, List.nil_append, List.append_nil]
      refine wp_iconst (a := 1) (pc' := 8) rfl rfl rfl ?_
      refine wp_call (pc' := 11) rfl rfl rfl rfl rfl ⟨Nat.le_of_ble_eq_true rfl, Nat.le_of_ble_eq_true rfl, Nat.le_of_ble_eq_true rfl, Nat.le_of_ble_eq_true rfl, Nat.le_of_ble_eq_true rfl⟩ rfl (c_Mod_need_cells hT (by decide) hz2 e25) ?_
      rintro v1 w9 (⟨hv1, hm0, hw1⟩ | ⟨hv1, hm0, hm1, hw1⟩ | ⟨hv1, hm0, hm1, hm2, hw1⟩ | ⟨hv1, hm0, hm1, hm2, hm3, hw1⟩ | ⟨hv1, hm0, hm1, hm2, hm3, hw1⟩)
      · skip
        exfalso
        omega
      · skip
        exfalso
        omega
      · skip
        exfalso
        omega
      · skip
        exfalso
        omega
      · skip
        rw [hv1, hw1]
        clear hv1 hw1 v1 w9
        dsimp only [Option.toList, List.cons_append, List.nil_append, List.append_nil]
        refine wp_istore_n (pc' := 12) rfl rfl (Nat.le_of_ble_eq_true rfl) rfl ?_
        dsimp only [lset, lset2, List.set, List.getElem?_cons_zero, List.getElem?_cons_succ]
        refine wp_iload_n (pc' := 13) rfl rfl rfl ?_
        refine wp_if_ge (pc' := 16) (pt := 20) rfl rfl rfl (fun q_264 => ?_) (fun q_264 => absurd (by decide) q_264)
        refine wp_aload_n (pc' := 21) rfl rfl rfl (by decide) ?_
        refine wp_iload_n (pc' := 22) rfl rfl rfl ?_
        refine wp_iload_n (pc' := 23) rfl rfl rfl ?_
        refine wp_call (pc' := 26) rfl rfl rfl rfl rfl ⟨Nat.le_of_ble_eq_true rfl, Nat.le_of_ble_eq_true rfl, Nat.le_of_ble_eq_true rfl, Nat.le_of_ble_eq_true rfl, Nat.le_of_ble_eq_true rfl⟩ rfl (c_Mod_kindSet hT hrr hzu heu hmu hwu (by omega)) ?_
        intro v1 w9 hq1
        rw [hq1.1, hq1.2]
        clear hq1 v1 w9
        dsimp only [Option.toList, List.cons_append, List.nil_append, List.append_nil]
        refine wp_ret rfl rfl rfl ?_
        first
        | (exfalso; omega)
        | exact ⟨rfl, rfl, hI⟩
        | exact ⟨rfl, by unfold mW; rw [up_ne (by decide), up_ne (by decide)], refW_inv hI (by decide)⟩
        | exact ⟨by rw [hse], rfl, hI⟩
    · skip
      rw [hv1, hw9]
      clear hv1 hw9 v1 w9
      dsimp only [Option.toList, List.cons_append, List.nil_append, List.append_nil]
      refine wp_iconst (a := 1) (pc' := 8) rfl rfl rfl ?_
      refine wp_call (pc' := 11) rfl rfl rfl rfl rfl ⟨Nat.le_of_ble_eq_true rfl, Nat.le_of_ble_eq_true rfl, Nat.le_of_ble_eq_true rfl, Nat.le_of_ble_eq_true rfl, Nat.le_of_ble_eq_true rfl⟩ rfl (c_Mod_need_cells hT (by decide) hz2 e25) ?_
      rintro v1 w9 (⟨hv1, hm0, hw1⟩ | ⟨hv1, hm0, hm1, hw1⟩ | ⟨hv1, hm0, hm1, hm2, hw1⟩ | ⟨hv1, hm0, hm1, hm2, hm3, hw1⟩ | ⟨hv1, hm0, hm1, hm2, hm3, hw1⟩)
      · skip
        exfalso
        omega
      · skip
        exfalso
        omega
      · skip
        exfalso
        omega
      · skip
        exfalso
        omega
      · skip
        rw [hv1, hw1]
        clear hv1 hw1 v1 w9
        dsimp only [Option.toList, List.cons_append, List.nil_append, List.append_nil]
        refine wp_istore_n (pc' := 12) rfl rfl (Nat.le_of_ble_eq_true rfl) rfl ?_
        dsimp only [lset, lset2, List.set, List.getElem?_cons_zero, List.getElem?_cons_succ]
        refine wp_iload_n (pc' := 13) rfl rfl rfl ?_
        refine wp_if_ge (pc' := 16) (pt := 20) rfl rfl rfl (fun q_265 => ?_) (fun q_265 => absurd (by decide) q_265)
        refine wp_aload_n (pc' := 21) rfl rfl rfl (by decide) ?_
        refine wp_iload_n (pc' := 22) rfl rfl rfl ?_
        refine wp_iload_n (pc' := 23) rfl rfl rfl ?_
        refine wp_call (pc' := 26) rfl rfl rfl rfl rfl ⟨Nat.le_of_ble_eq_true rfl, Nat.le_of_ble_eq_true rfl, Nat.le_of_ble_eq_true rfl, Nat.le_of_ble_eq_true rfl, Nat.le_of_ble_eq_true rfl⟩ rfl (c_Mod_kindSet hT hrr hzu heu hmu hwu (by omega)) ?_
        intro v1 w9 hq1
        rw [hq1.1, hq1.2]
        clear hq1 v1 w9
        dsimp only [Option.toList, List.cons_append, List.nil_append, List.append_nil]
        refine wp_ret rfl rfl rfl ?_
        first
        | (exfalso; omega)
        | exact ⟨rfl, rfl, hI⟩
        | exact ⟨rfl, by unfold mW; rw [up_ne (by decide), up_ne (by decide)], refW_inv hI (by decide)⟩
        | exact ⟨by rw [hse], rfl, hI⟩
