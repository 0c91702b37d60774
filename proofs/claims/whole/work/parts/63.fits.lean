/-! fits -/
set_option maxRecDepth 20000 in
set_option maxHeartbeats 4000000 in
theorem p_fits {w : Hp} {d : Nat} {r : Int} (hI : Inv w) : WP SH (d + 9) 106 0 [some (vR 0), some (vI r), none, none] [] w (fun v0 w1 => ∃ a, v0 = some (vI a) ∧ w1 (-2) = w (-2) ∧ WP SH (d + 9) 209 0 [some (vR 100), some (vI r), none, none] [] w1 (fun v2 w2 => v2 = some (vI a) ∧ w2 (-2) = w1 (-2) ∧ Inv w2)) := by
  obtain ⟨hT, hRO, hIF, hITo, hIR, hIT, hIL, hIK⟩ := id hI
  obtain ⟨hn25, b11, b12, b10, hn6, hem, m0, m1, m2, m23, hyr, hdd, hpre⟩ := hI.base
  have hmm : w 100 11 * w 100 12 = w 3 0 * w 3 1 := by rw [b11, b12]
  refine wp_aload_n (pc' := 1) rfl rfl rfl (by decide) ?_
  refine wp_iload_n (pc' := 2) rfl rfl rfl ?_
  refine wp_call (pc' := 5) rfl rfl rfl rfl rfl ⟨Nat.le_of_ble_eq_true rfl, Nat.le_of_ble_eq_true rfl, Nat.le_of_ble_eq_true rfl, Nat.le_of_ble_eq_true rfl, Nat.le_of_ble_eq_true rfl⟩ rfl (c_VH_cellPairs hT (fun a b => by have := hIR r a b; omega)) ?_
  rintro v1 w1 (⟨hv1, hp0, hw1⟩ | ⟨hv1, hp0, hpe, hw1⟩ | ⟨hv1, hp0, hpe, hp1, hw1⟩ | ⟨hv1, hp0, hpe, hp1, hp2, hw1⟩ | ⟨hv1, hp0, hpe, hp1, hp2, hp3, hw1⟩ | ⟨hv1, hp0, hpe, hp1, hp2, hp3, hw1⟩)
  · skip
    rw [hv1, hw1]
    clear hv1 hw1 v1 w1
    dsimp only [Option.toList, List.cons_append, List.nil_append, List.append_nil]
    refine wp_istore_n (pc' := 6) rfl rfl (Nat.le_of_ble_eq_true rfl) rfl ?_
    dsimp only [lset, lset2, List.set, List.getElem?_cons_zero, List.getElem?_cons_succ]
    refine wp_iload_n (pc' := 7) rfl rfl rfl ?_
    refine wp_if_eq (pc' := 10) (pt := 12) rfl rfl rfl (fun q_1 => absurd q_1 (by decide)) (fun q_1 => ?_)
    refine wp_iload_n (pc' := 11) rfl rfl rfl ?_
    refine wp_ret rfl rfl rfl ?_
    refine ⟨_, rfl, ?_, ?_⟩
    · rfl
    have e10 : w 100 10 = w 3 2 := b10
    have hz2 : 0 ≤ r → r < 6 → -1 ≤ w 102 r ∧ w 102 r ≤ 40 := fun a b => (hIR r a b).2.1
    have e25 : 0 ≤ w 100 11 * w 100 12 ∧ w 100 11 * w 100 12 ≤ 25 := by omega
    refine wp_aload_n (pc' := 1) rfl rfl rfl (by decide) ?_
    refine wp_iload_n (pc' := 2) rfl rfl rfl ?_
    refine wp_iconst (a := 1) (pc' := 3) rfl rfl rfl ?_
    refine wp_iconst (a := 0) (pc' := 4) rfl rfl rfl ?_
    refine wp_call (pc' := 7) rfl rfl rfl rfl rfl ⟨Nat.le_of_ble_eq_true rfl, Nat.le_of_ble_eq_true rfl, Nat.le_of_ble_eq_true rfl, Nat.le_of_ble_eq_true rfl, Nat.le_of_ble_eq_true rfl⟩ rfl (c_Mod_need_ones hT (by decide) hz2 (by omega)) ?_
    rintro v1 w9 (⟨hv1, hm0, hw1⟩ | ⟨hv1, hm0, hme, hw1⟩ | ⟨hv1, hm0, hme, hm1, hw1⟩ | ⟨hv1, hm0, hme, hm1, hm2, hw1⟩ | ⟨hv1, hm0, hme, hm1, hm2, hm3, hw1⟩ | ⟨hv1, hm0, hme, hm1, hm2, hm3, hw1⟩)
    · skip
      rw [hv1, hw1]
      clear hv1 hw1 v1 w9
      dsimp only [Option.toList, List.cons_append, List.nil_append, List.append_nil]
      refine wp_istore_n (pc' := 8) rfl rfl (Nat.le_of_ble_eq_true rfl) rfl ?_
      dsimp only [lset, lset2, List.set, List.getElem?_cons_zero, List.getElem?_cons_succ]
      refine wp_iload_n (pc' := 9) rfl rfl rfl ?_
      refine wp_if_ge (pc' := 12) (pt := 14) rfl rfl rfl (fun q_52 => absurd q_52 (by decide)) (fun q_52 => ?_)
      refine wp_iload_n (pc' := 13) rfl rfl rfl ?_
      refine wp_ret rfl rfl rfl ?_
      first
      | (exfalso; omega)
      | exact ⟨rfl, rfl, hI⟩
      | exact ⟨rfl, by unfold mW; rw [up_ne (by decide), up_ne (by decide)], refW_inv hI (by decide)⟩
    · skip
      exfalso
      omega
    · skip
      exfalso
      omega
    · skip
      exfalso
      omega
    · skip
      exfalso
      omega
    · skip
      exfalso
      omega
  · skip
    rw [hv1, hw1]
    clear hv1 hw1 v1 w1
    dsimp only [Option.toList, List.cons_append, List.nil_append, List.append_nil]
    refine wp_istore_n (pc' := 6) rfl rfl (Nat.le_of_ble_eq_true rfl) rfl ?_
    dsimp only [lset, lset2, List.set, List.getElem?_cons_zero, List.getElem?_cons_succ]
    refine wp_iload_n (pc' := 7) rfl rfl rfl ?_
    refine wp_if_eq (pc' := 10) (pt := 12) rfl rfl rfl (fun q_53 => absurd q_53 (by decide)) (fun q_53 => ?_)
    refine wp_iload_n (pc' := 11) rfl rfl rfl ?_
    refine wp_ret rfl rfl rfl ?_
    refine ⟨_, rfl, ?_, ?_⟩
    · rfl
    have e10 : w 100 10 = w 3 2 := b10
    have hz2 : 0 ≤ r → r < 6 → -1 ≤ w 102 r ∧ w 102 r ≤ 40 := fun a b => (hIR r a b).2.1
    have e25 : 0 ≤ w 100 11 * w 100 12 ∧ w 100 11 * w 100 12 ≤ 25 := by omega
    refine wp_aload_n (pc' := 1) rfl rfl rfl (by decide) ?_
    refine wp_iload_n (pc' := 2) rfl rfl rfl ?_
    refine wp_iconst (a := 1) (pc' := 3) rfl rfl rfl ?_
    refine wp_iconst (a := 0) (pc' := 4) rfl rfl rfl ?_
    refine wp_call (pc' := 7) rfl rfl rfl rfl rfl ⟨Nat.le_of_ble_eq_true rfl, Nat.le_of_ble_eq_true rfl, Nat.le_of_ble_eq_true rfl, Nat.le_of_ble_eq_true rfl, Nat.le_of_ble_eq_true rfl⟩ rfl (c_Mod_need_ones hT (by decide) hz2 (by omega)) ?_
    rintro v1 w9 (⟨hv1, hm0, hw1⟩ | ⟨hv1, hm0, hme, hw1⟩ | ⟨hv1, hm0, hme, hm1, hw1⟩ | ⟨hv1, hm0, hme, hm1, hm2, hw1⟩ | ⟨hv1, hm0, hme, hm1, hm2, hm3, hw1⟩ | ⟨hv1, hm0, hme, hm1, hm2, hm3, hw1⟩)
    · skip
      exfalso
      omega
    · skip
      rw [hv1, hw1]
      clear hv1 hw1 v1 w9
      dsimp only [Option.toList, List.cons_append, List.nil_append, List.append_nil]
      refine wp_istore_n (pc' := 8) rfl rfl (Nat.le_of_ble_eq_true rfl) rfl ?_
      dsimp only [lset, lset2, List.set, List.getElem?_cons_zero, List.getElem?_cons_succ]
      refine wp_iload_n (pc' := 9) rfl rfl rfl ?_
      refine wp_if_ge (pc' := 12) (pt := 14) rfl rfl rfl (fun q_104 => absurd q_104 (by decide)) (fun q_104 => ?_)
      refine wp_iload_n (pc' := 13) rfl rfl rfl ?_
      refine wp_ret rfl rfl rfl ?_
      first
      | (exfalso; omega)
      | exact ⟨rfl, rfl, hI⟩
      | exact ⟨rfl, by unfold mW; rw [up_ne (by decide), up_ne (by decide)], refW_inv hI (by decide)⟩
    · skip
      exfalso
      omega
    · skip
      exfalso
      omega
    · skip
      exfalso
      omega
    · skip
      exfalso
      omega
  · skip
    rw [hv1, hw1]
    clear hv1 hw1 v1 w1
    dsimp only [Option.toList, List.cons_append, List.nil_append, List.append_nil]
    refine wp_istore_n (pc' := 6) rfl rfl (Nat.le_of_ble_eq_true rfl) rfl ?_
    dsimp only [lset, lset2, List.set, List.getElem?_cons_zero, List.getElem?_cons_succ]
    refine wp_iload_n (pc' := 7) rfl rfl rfl ?_
    refine wp_if_eq (pc' := 10) (pt := 12) rfl rfl rfl (fun q_105 => absurd q_105 (by decide)) (fun q_105 => ?_)
    refine wp_iload_n (pc' := 11) rfl rfl rfl ?_
    refine wp_ret rfl rfl rfl ?_
    refine ⟨_, rfl, ?_, ?_⟩
    · rw [refW_ne (by decide) (by decide)]
    have hTr := refW_stc (f := 1) hT
    have ew : ∀ q : Int, q ≠ 0 → q ≠ 52 → refW w 1 q = w q := fun q a b => refW_ne a b
    have e10 : refW w 1 100 10 = w 3 2 := by rw [ew 100 (by decide) (by decide), b10]
    have e25 : 0 ≤ refW w 1 100 11 * refW w 1 100 12 ∧ refW w 1 100 11 * refW w 1 100 12 ≤ 25 := by rw [ew 100 (by decide) (by decide)]; omega
    have hirr := hIR r hp0.1 hp0.2
    have hz2 : 0 ≤ r → r < 6 → -1 ≤ refW w 1 102 r ∧ refW w 1 102 r ≤ 40 := fun a b => by rw [ew 102 (by decide) (by decide)]; exact hirr.2.1
    have e102 : refW w 1 102 r = w (53 + 2 * r) 1 := by rw [ew 102 (by decide) (by decide)]; exact hirr.1.symm
    have hwe : 0 ≤ w (53 + 2 * r) 1 → wellN (fun j => refW w 1 103 (40 * r + j)) (refW w 1 100 10) (refW w 1 102 r / 2).toNat = wellN (w (54 + 2 * r)) (w 3 2) (w (53 + 2 * r) 1 / 2).toNat := fun hnn => by
      rw [ew 100 (by decide) (by decide), ew 102 (by decide) (by decide), ew 103 (by decide) (by decide), hirr.1, b10]
      exact wellN_congr (fun j a b => (hirr.2.2 j a (by omega)).1.symm)
    refine wp_aload_n (pc' := 1) rfl rfl rfl (by decide) ?_
    refine wp_iload_n (pc' := 2) rfl rfl rfl ?_
    refine wp_iconst (a := 1) (pc' := 3) rfl rfl rfl ?_
    refine wp_iconst (a := 0) (pc' := 4) rfl rfl rfl ?_
    refine wp_call (pc' := 7) rfl rfl rfl rfl rfl ⟨Nat.le_of_ble_eq_true rfl, Nat.le_of_ble_eq_true rfl, Nat.le_of_ble_eq_true rfl, Nat.le_of_ble_eq_true rfl, Nat.le_of_ble_eq_true rfl⟩ rfl (c_Mod_need_ones hTr (by decide) hz2 (by omega)) ?_
    rintro v1 w9 (⟨hv1, hm0, hw1⟩ | ⟨hv1, hm0, hme, hw1⟩ | ⟨hv1, hm0, hme, hm1, hw1⟩ | ⟨hv1, hm0, hme, hm1, hm2, hw1⟩ | ⟨hv1, hm0, hme, hm1, hm2, hm3, hw1⟩ | ⟨hv1, hm0, hme, hm1, hm2, hm3, hw1⟩)
    · skip
      exfalso
      omega
    · skip
      exfalso
      omega
    · skip
      rw [hv1, hw1]
      clear hv1 hw1 v1 w9
      dsimp only [Option.toList, List.cons_append, List.nil_append, List.append_nil]
      refine wp_istore_n (pc' := 8) rfl rfl (Nat.le_of_ble_eq_true rfl) rfl ?_
      dsimp only [lset, lset2, List.set, List.getElem?_cons_zero, List.getElem?_cons_succ]
      refine wp_iload_n (pc' := 9) rfl rfl rfl ?_
      refine wp_if_ge (pc' := 12) (pt := 14) rfl rfl rfl (fun q_156 => absurd q_156 (by decide)) (fun q_156 => ?_)
      refine wp_iload_n (pc' := 13) rfl rfl rfl ?_
      refine wp_ret rfl rfl rfl ?_
      first
      | (exfalso; omega)
      | exact ⟨rfl, rfl, hI⟩
      | exact ⟨rfl, by unfold mW; rw [up_ne (by decide), up_ne (by decide)], refW_inv hI (by decide)⟩
    · skip
      exfalso
      omega
    · skip
      exfalso
      omega
    · skip
      exfalso
      omega
  · skip
    rw [hv1, hw1]
    clear hv1 hw1 v1 w1
    dsimp only [Option.toList, List.cons_append, List.nil_append, List.append_nil]
    refine wp_istore_n (pc' := 6) rfl rfl (Nat.le_of_ble_eq_true rfl) rfl ?_
    dsimp only [lset, lset2, List.set, List.getElem?_cons_zero, List.getElem?_cons_succ]
    refine wp_iload_n (pc' := 7) rfl rfl rfl ?_
    refine wp_if_eq (pc' := 10) (pt := 12) rfl rfl rfl (fun q_157 => absurd q_157 (by decide)) (fun q_157 => ?_)
    refine wp_iload_n (pc' := 11) rfl rfl rfl ?_
    refine wp_ret rfl rfl rfl ?_
    refine ⟨_, rfl, ?_, ?_⟩
    · rw [refW_ne (by decide) (by decide)]
    have hTr := refW_stc (f := 5) hT
    have ew : ∀ q : Int, q ≠ 0 → q ≠ 52 → refW w 5 q = w q := fun q a b => refW_ne a b
    have e10 : refW w 5 100 10 = w 3 2 := by rw [ew 100 (by decide) (by decide), b10]
    have e25 : 0 ≤ refW w 5 100 11 * refW w 5 100 12 ∧ refW w 5 100 11 * refW w 5 100 12 ≤ 25 := by rw [ew 100 (by decide) (by decide)]; omega
    have hirr := hIR r hp0.1 hp0.2
    have hz2 : 0 ≤ r → r < 6 → -1 ≤ refW w 5 102 r ∧ refW w 5 102 r ≤ 40 := fun a b => by rw [ew 102 (by decide) (by decide)]; exact hirr.2.1
    have e102 : refW w 5 102 r = w (53 + 2 * r) 1 := by rw [ew 102 (by decide) (by decide)]; exact hirr.1.symm
    have hwe : 0 ≤ w (53 + 2 * r) 1 → wellN (fun j => refW w 5 103 (40 * r + j)) (refW w 5 100 10) (refW w 5 102 r / 2).toNat = wellN (w (54 + 2 * r)) (w 3 2) (w (53 + 2 * r) 1 / 2).toNat := fun hnn => by
      rw [ew 100 (by decide) (by decide), ew 102 (by decide) (by decide), ew 103 (by decide) (by decide), hirr.1, b10]
      exact wellN_congr (fun j a b => (hirr.2.2 j a (by omega)).1.symm)
    refine wp_aload_n (pc' := 1) rfl rfl rfl (by decide) ?_
    refine wp_iload_n (pc' := 2) rfl rfl rfl ?_
    refine wp_iconst (a := 1) (pc' := 3) rfl rfl rfl ?_
    refine wp_iconst (a := 0) (pc' := 4) rfl rfl rfl ?_
    refine wp_call (pc' := 7) rfl rfl rfl rfl rfl ⟨Nat.le_of_ble_eq_true rfl, Nat.le_of_ble_eq_true rfl, Nat.le_of_ble_eq_true rfl, Nat.le_of_ble_eq_true rfl, Nat.le_of_ble_eq_true rfl⟩ rfl (c_Mod_need_ones hTr (by decide) hz2 (by omega)) ?_
    rintro v1 w9 (⟨hv1, hm0, hw1⟩ | ⟨hv1, hm0, hme, hw1⟩ | ⟨hv1, hm0, hme, hm1, hw1⟩ | ⟨hv1, hm0, hme, hm1, hm2, hw1⟩ | ⟨hv1, hm0, hme, hm1, hm2, hm3, hw1⟩ | ⟨hv1, hm0, hme, hm1, hm2, hm3, hw1⟩)
    · skip
      exfalso
      omega
    · skip
      exfalso
      omega
    · skip
      exfalso
      omega
    · skip
      rw [hv1, hw1]
      clear hv1 hw1 v1 w9
      dsimp only [Option.toList, List.cons_append, List.nil_append, List.append_nil]
      refine wp_istore_n (pc' := 8) rfl rfl (Nat.le_of_ble_eq_true rfl) rfl ?_
      dsimp only [lset, lset2, List.set, List.getElem?_cons_zero, List.getElem?_cons_succ]
      refine wp_iload_n (pc' := 9) rfl rfl rfl ?_
      refine wp_if_ge (pc' := 12) (pt := 14) rfl rfl rfl (fun q_208 => absurd q_208 (by decide)) (fun q_208 => ?_)
      refine wp_iload_n (pc' := 13) rfl rfl rfl ?_
      refine wp_ret rfl rfl rfl ?_
      first
      | (exfalso; omega)
      | exact ⟨rfl, rfl, hI⟩
      | exact ⟨rfl, by unfold mW; rw [up_ne (by decide), up_ne (by decide)], refW_inv hI (by decide)⟩
    · skip
      exfalso
      omega
    · skip
      exfalso
      omega
  · skip
    rw [hv1, hw1]
    clear hv1 hw1 v1 w1
    dsimp only [Option.toList, List.cons_append, List.nil_append, List.append_nil]
    refine wp_istore_n (pc' := 6) rfl rfl (Nat.le_of_ble_eq_true rfl) rfl ?_
    dsimp only [lset, lset2, List.set, List.getElem?_cons_zero, List.getElem?_cons_succ]
    refine wp_iload_n (pc' := 7) rfl rfl rfl ?_
    refine wp_if_eq (pc' := 10) (pt := 12) rfl rfl rfl (fun q_209 => absurd q_209 (by decide)) (fun q_209 => ?_)
    refine wp_iload_n (pc' := 11) rfl rfl rfl ?_
    refine wp_ret rfl rfl rfl ?_
    refine ⟨_, rfl, ?_, ?_⟩
    · rw [refW_ne (by decide) (by decide)]
    have hTr := refW_stc (f := 3) hT
    have ew : ∀ q : Int, q ≠ 0 → q ≠ 52 → refW w 3 q = w q := fun q a b => refW_ne a b
    have e10 : refW w 3 100 10 = w 3 2 := by rw [ew 100 (by decide) (by decide), b10]
    have e25 : 0 ≤ refW w 3 100 11 * refW w 3 100 12 ∧ refW w 3 100 11 * refW w 3 100 12 ≤ 25 := by rw [ew 100 (by decide) (by decide)]; omega
    have hirr := hIR r hp0.1 hp0.2
    have hz2 : 0 ≤ r → r < 6 → -1 ≤ refW w 3 102 r ∧ refW w 3 102 r ≤ 40 := fun a b => by rw [ew 102 (by decide) (by decide)]; exact hirr.2.1
    have e102 : refW w 3 102 r = w (53 + 2 * r) 1 := by rw [ew 102 (by decide) (by decide)]; exact hirr.1.symm
    have hwe : 0 ≤ w (53 + 2 * r) 1 → wellN (fun j => refW w 3 103 (40 * r + j)) (refW w 3 100 10) (refW w 3 102 r / 2).toNat = wellN (w (54 + 2 * r)) (w 3 2) (w (53 + 2 * r) 1 / 2).toNat := fun hnn => by
      rw [ew 100 (by decide) (by decide), ew 102 (by decide) (by decide), ew 103 (by decide) (by decide), hirr.1, b10]
      exact wellN_congr (fun j a b => (hirr.2.2 j a (by omega)).1.symm)
    refine wp_aload_n (pc' := 1) rfl rfl rfl (by decide) ?_
    refine wp_iload_n (pc' := 2) rfl rfl rfl ?_
    refine wp_iconst (a := 1) (pc' := 3) rfl rfl rfl ?_
    refine wp_iconst (a := 0) (pc' := 4) rfl rfl rfl ?_
    refine wp_call (pc' := 7) rfl rfl rfl rfl rfl ⟨Nat.le_of_ble_eq_true rfl, Nat.le_of_ble_eq_true rfl, Nat.le_of_ble_eq_true rfl, Nat.le_of_ble_eq_true rfl, Nat.le_of_ble_eq_true rfl⟩ rfl (c_Mod_need_ones hTr (by decide) hz2 (by omega)) ?_
    rintro v1 w9 (⟨hv1, hm0, hw1⟩ | ⟨hv1, hm0, hme, hw1⟩ | ⟨hv1, hm0, hme, hm1, hw1⟩ | ⟨hv1, hm0, hme, hm1, hm2, hw1⟩ | ⟨hv1, hm0, hme, hm1, hm2, hm3, hw1⟩ | ⟨hv1, hm0, hme, hm1, hm2, hm3, hw1⟩)
    · skip
      exfalso
      omega
    · skip
      exfalso
      omega
    · skip
      exfalso
      omega
    · skip
      exfalso
      omega
    · skip
      rw [hv1, hw1]
      clear hv1 hw1 v1 w9
      dsimp only [Option.toList, List.cons_append, List.nil_append, List.append_nil]
      refine wp_istore_n (pc' := 8) rfl rfl (Nat.le_of_ble_eq_true rfl) rfl ?_
      dsimp only [lset, lset2, List.set, List.getElem?_cons_zero, List.getElem?_cons_succ]
      refine wp_iload_n (pc' := 9) rfl rfl rfl ?_
      refine wp_if_ge (pc' := 12) (pt := 14) rfl rfl rfl (fun q_260 => absurd q_260 (by decide)) (fun q_260 => ?_)
      refine wp_iload_n (pc' := 13) rfl rfl rfl ?_
      refine wp_ret rfl rfl rfl ?_
      first
      | (exfalso; omega)
      | exact ⟨rfl, rfl, hI⟩
      | exact ⟨rfl, by unfold mW; rw [up_ne (by decide), up_ne (by decide)], refW_inv hI (by decide)⟩
    · skip
      exfalso
      omega
  · skip
    rw [hv1, hw1]
    clear hv1 hw1 v1 w1
    have hstr := strip_row hT hp0.1 hp0.2
    have hs7r := hstr.1.1
    have hirr := hIR r hp0.1 hp0.2
    have hn0 : w 3 2 ≠ 0 := by omega
    have hpr := hpre hn0
    have hwl : ∀ q : Int, 0 ≤ q → q < w (53 + 2 * r) 1 / 2 → 0 ≤ w (54 + 2 * r) (2 * q) ∧ w (54 + 2 * r) (2 * q) < w 3 2 := fun q a b => by
      have := wellN_at hp3 q a (by omega)
      exact ⟨this.1, this.2.1⟩
    dsimp only [Option.toList, List.cons_append, List.nil_append, List.append_nil]
    refine wp_istore_n (pc' := 6) rfl rfl (Nat.le_of_ble_eq_true rfl) rfl ?_
    dsimp only [lset, lset2, List.set, List.getElem?_cons_zero, List.getElem?_cons_succ]
    refine wp_iload_n (pc' := 7) rfl rfl rfl ?_
    refine wp_if_eq (pc' := 10) (pt := 12) rfl rfl rfl (fun q_261 => ?_) (fun q_261 => absurd (by decide) q_261)
    refine wp_aload_n (pc' := 13) rfl rfl rfl (by decide) ?_
    refine wp_getR (r' := 45) (ci := 9) (k0 := 9) (pc' := 16) rfl rfl (by decide) (by first | assumption | rfl) (hT.get 9 rfl) ?_
    refine wp_aload_n (pc' := 17) rfl rfl rfl (by decide) ?_
    refine wp_getR (r' := 3) (ci := 9) (k0 := 2) (pc' := 20) rfl rfl (by decide) (by first | assumption | rfl) (hT.get 2 rfl) ?_
    refine wp_aload_n (pc' := 21) rfl rfl rfl (by decide) ?_
    refine wp_getR (r' := 1) (ci := 9) (k0 := 0) (pc' := 24) rfl rfl (by decide) (by first | assumption | rfl) (hT.get 0 rfl) ?_
    refine wp_iload_n (pc' := 25) rfl rfl rfl ?_
    refine wp_aaload (r' := (53 + 2 * r)) (pc' := 26) rfl rfl (by first | assumption | rfl) rfl (by omega) (hstr.2) ?_
    refine wp_call (pc' := 29) rfl rfl rfl rfl rfl ⟨Nat.le_of_ble_eq_true rfl, Nat.le_of_ble_eq_true rfl, Nat.le_of_ble_eq_true rfl, Nat.le_of_ble_eq_true rfl, Nat.le_of_ble_eq_true rfl⟩ rfl (c_Clues_fittingCells hT hstr.1 (by omega) hp2 hpr.1 hwl) ?_
    intro v1 w9 hq1
    rw [hq1.1, hq1.2]
    clear hq1 v1 w9
    have hml := hpr.1.1.mul
    obtain ⟨x0, hx0, hxl⟩ := orN_nat (f := fun y => fitN (gCel (w 3 0) (w 4) (w 5) y) (w (54 + 2 * r)) (w (53 + 2 * r) 1 / 2).toNat) (m := (w 3 0 * w 3 1).toNat) (by omega)
    have hx25 : x0 < 33554432 := Nat.lt_of_lt_of_le hxl (Nat.pow_le_pow_right (n := 2) (by decide) (show (w 3 0 * w 3 1).toNat ≤ 25 by omega))
    rw [hx0]
    dsimp only [Option.toList, List.cons_append, List.nil_append, List.append_nil]
    refine wp_istore_n (pc' := 30) rfl rfl (Nat.le_of_ble_eq_true rfl) rfl ?_
    dsimp only [lset, lset2, List.set, List.getElem?_cons_zero, List.getElem?_cons_succ]
    refine wp_aload_n (pc' := 31) rfl rfl rfl (by decide) ?_
    refine wp_iload_n (pc' := 32) rfl rfl rfl ?_
    refine wp_call (pc' := 35) rfl rfl rfl rfl rfl ⟨Nat.le_of_ble_eq_true rfl, Nat.le_of_ble_eq_true rfl, Nat.le_of_ble_eq_true rfl, Nat.le_of_ble_eq_true rfl, Nat.le_of_ble_eq_true rfl⟩ rfl (c_bitCount hx25) ?_
    intro v1 w9 hq1
    rw [hq1.1, hq1.2]
    clear hq1 v1 w9
    dsimp only [Option.toList, List.cons_append, List.nil_append, List.append_nil]
    refine wp_putI (ci := 9) (k0 := 14) (pc' := 38) rfl rfl (by decide) (by first | assumption | rfl) ?_
    refine wp_iload_n (pc' := 39) rfl rfl rfl ?_
    refine wp_ret rfl rfl rfl ?_
    refine ⟨_, rfl, ?_, ?_⟩
    · rw [up_ne (by decide)]
    obtain ⟨u1, hu1⟩ : ∃ x, x = up w 0 14 ((pop 32 x0 : Nat) : Int) := ⟨_, rfl⟩
    rw [← hu1]
    have hQu : SameF w u1 LQ FQ := by rw [hu1]; exact (SameF.rf _ _ _).put (Or.inr (by decide))
    have e014 : u1 0 14 = ((pop 32 x0 : Nat) : Int) := by rw [hu1, up_eq]
    obtain ⟨hT, hru, hlu, hmu, e3u, e4u, e5u, e6u, g11u, g12u, g10u, g7u, g8u, g9u, hxu⟩ := vw hI hn0 hQu
    have f102 : u1 102 = w 102 := hQu.cell 102 (by decide) (by decide)
    have f103 : u1 103 = w 103 := hQu.cell 103 (by decide) (by decide)
    have e10 : u1 100 10 = w 3 2 := g10u
    have e25 : 0 ≤ u1 100 11 * u1 100 12 ∧ u1 100 11 * u1 100 12 ≤ 25 := by rw [g11u, g12u]; exact hn25
    have hz2 : 0 ≤ r → r < 6 → -1 ≤ u1 102 r ∧ u1 102 r ≤ 40 := fun a b => by rw [f102]; exact hirr.2.1
    have e102 : u1 102 r = w (53 + 2 * r) 1 := by rw [f102]; exact hirr.1.symm
    have hwe : wellN (fun j => u1 103 (40 * r + j)) (u1 100 10) (u1 102 r / 2).toNat = wellN (w (54 + 2 * r)) (w 3 2) (w (53 + 2 * r) 1 / 2).toNat := by
      rw [g10u, f102, f103, hirr.1]
      exact wellN_congr (fun j a b => (hirr.2.2 j a (by omega)).1.symm)
    have hrr : 0 ≤ r ∧ r < 6 := hp0
    have hzu : 0 ≤ u1 102 r ∧ u1 102 r ≤ 40 := by omega
    have heu : u1 102 r % 2 = 0 := by omega
    have hwu : ∀ q : Int, 0 ≤ q → q < u1 102 r / 2 → 0 ≤ u1 103 (40 * r + 2 * q) ∧ u1 103 (40 * r + 2 * q) < u1 100 10 := fun q a b => by
      have h1 := hwl q a (by omega)
      have h2 := (hirr.2.2 (2 * q) (by omega) (by omega)).1
      rw [f103, ← h2]
      rw [g10u]; exact h1
    have hse : orN (fun y => fitN (gCel (u1 100 11) (u1 107) (fun i => u1 109 (3 + i)) y) (fun j => u1 103 (40 * r + j)) (u1 102 r / 2).toNat) (u1 100 11 * u1 100 12).toNat = (orN (fun y => fitN (gCel (w 3 0) (w 4) (w 5) y) (w (54 + 2 * r)) (w (53 + 2 * r) 1 / 2).toNat) (w 3 0 * w 3 1).toNat) := by
      rw [g11u, g12u, g7u, g9u, f102, f103, hirr.1]
      refine orN_congr (fun y a b => fitN_congr (fun j c e => (hirr.2.2 j c (by omega)).1.symm) (fun q c e => ?_))
      have h1 := hwl q c (by omega)
      have h2 := hpr.2.2.2.2 _ h1.1 h1.2
      unfold gCel
      dsimp only
      rw [h2.1, h2.2.1]
    rw [hx0] at hse
    refine wp_aload_n (pc' := 1) rfl rfl rfl (by decide) ?_
    refine wp_iload_n (pc' := 2) rfl rfl rfl ?_
    refine wp_iconst (a := 1) (pc' := 3) rfl rfl rfl ?_
    refine wp_iconst (a := 0) (pc' := 4) rfl rfl rfl ?_
    refine wp_call (pc' := 7) rfl rfl rfl rfl rfl ⟨Nat.le_of_ble_eq_true rfl, Nat.le_of_ble_eq_true rfl, Nat.le_of_ble_eq_true rfl, Nat.le_of_ble_eq_true rfl, Nat.le_of_ble_eq_true rfl⟩ rfl (c_Mod_need_ones hT (by decide) hz2 (by omega)) ?_
    rintro v1 w9 (⟨hv1, hm0, hw1⟩ | ⟨hv1, hm0, hme, hw1⟩ | ⟨hv1, hm0, hme, hm1, hw1⟩ | ⟨hv1, hm0, hme, hm1, hm2, hw1⟩ | ⟨hv1, hm0, hme, hm1, hm2, hm3, hw1⟩ | ⟨hv1, hm0, hme, hm1, hm2, hm3, hw1⟩)
    · skip
      exfalso
      omega
    · skip
      exfalso
      omega
    · skip
      exfalso
      omega
    · skip
      exfalso
      omega
    · skip
      exfalso
      omega
    · skip
      rw [hv1, hw1]
      clear hv1 hw1 v1 w9
      dsimp only [Option.toList, List.cons_append, List.nil_append, List.append_nil]
      refine wp_istore_n (pc' := 8) rfl rfl (Nat.le_of_ble_eq_true rfl) rfl ?_
      dsimp only [lset, lset2, List.set, List.getElem?_cons_zero, List.getElem?_cons_succ]
      refine wp_iload_n (pc' := 9) rfl rfl rfl ?_
      refine wp_if_ge (pc' := 12) (pt := 14) rfl rfl rfl (fun q_312 => ?_) (fun q_312 => absurd (by decide) q_312)
      refine wp_aload_n (pc' := 15) rfl rfl rfl (by decide) ?_
      refine wp_iload_n (pc' := 16) rfl rfl rfl ?_
      refine wp_call (pc' := 19) rfl rfl rfl rfl rfl ⟨Nat.le_of_ble_eq_true rfl, Nat.le_of_ble_eq_true rfl, Nat.le_of_ble_eq_true rfl, Nat.le_of_ble_eq_true rfl, Nat.le_of_ble_eq_true rfl⟩ rfl (c_Mod_fitSet hT hrr hzu heu hmu hwu) ?_
      intro v1 w9 hq1
      rw [hq1.1, hq1.2]
      clear hq1 v1 w9
      rw [hse]
      dsimp only [Option.toList, List.cons_append, List.nil_append, List.append_nil]
      refine wp_istore_n (pc' := 20) rfl rfl (Nat.le_of_ble_eq_true rfl) rfl ?_
      dsimp only [lset, lset2, List.set, List.getElem?_cons_zero, List.getElem?_cons_succ]
      refine wp_aload_n (pc' := 21) rfl rfl rfl (by decide) ?_
      refine wp_iload_n (pc' := 22) rfl rfl rfl ?_
      refine wp_call (pc' := 25) rfl rfl rfl rfl rfl ⟨Nat.le_of_ble_eq_true rfl, Nat.le_of_ble_eq_true rfl, Nat.le_of_ble_eq_true rfl, Nat.le_of_ble_eq_true rfl, Nat.le_of_ble_eq_true rfl⟩ rfl (c_Mod_bits hx25) ?_
      intro v1 w9 hq1
      rw [hq1.1, hq1.2]
      clear hq1 v1 w9
      dsimp only [Option.toList, List.cons_append, List.nil_append, List.append_nil]
      refine wp_iload_n (pc' := 26) rfl rfl rfl ?_
      refine wp_call (pc' := 29) rfl rfl rfl rfl rfl ⟨Nat.le_of_ble_eq_true rfl, Nat.le_of_ble_eq_true rfl, Nat.le_of_ble_eq_true rfl, Nat.le_of_ble_eq_true rfl, Nat.le_of_ble_eq_true rfl⟩ rfl (c_Mod_tells) ?_
      rintro v1 w6 ⟨hv1, hw6⟩
      rw [hv1]
      clear hv1 v1
      dsimp only [Option.toList, List.cons_append, List.nil_append, List.append_nil]
      refine wp_ret rfl rfl rfl ?_
      refine ⟨rfl, ?_, hI.query (w' := w6) ?_ ?_⟩
      · rw [hw6, up_ne (by decide)]
      · rw [hw6]
        exact hQu.put (Or.inr (by decide))
      · rw [hw6, up_eq, up_ne (by decide), e014]
