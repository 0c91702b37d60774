/-! the reference reads one -/
set_option maxRecDepth 20000 in
set_option maxHeartbeats 4000000 in
theorem c_Mod_readsOne {w : Hp} {d : Nat} {t z p : Int} (hT0 : Stc w) (hX0 : Tx w t z) (hp : 0 ≤ p ∧ p ≤ z) (hn : 0 ≤ w 100 18 ∧ w 100 18 ≤ 6) (hc : 3 ≤ w 111 0 ∧ w 111 0 ≤ 5) (hl : 3 ≤ w 111 1 ∧ w 111 1 ≤ 5) : WP SH (d + 2) 163 0 [some (vR 100), some (vI t), none, none, none] [] (up w 100 17 p) (fun v w' => (v = some (vI 0) ∧ (kd (bA (mT w t) z p) = -1 ∨ w 100 18 = 6) ∧ SameF w w' [112] [(100, 17)] ∧ w' 100 17 = p ∧ ∀ j : Int, j < 4 * w 100 18 → w' 112 j = w 112 j) ∨ (v = some (vI 0) ∧ ¬ (kd (bA (mT w t) z p) = -1 ∨ w 100 18 = 6) ∧ oE (mT w t) z (w 111 0) (w 111 1) p < p + 4 ∧ SameF w w' [112] [(100, 17)] ∧ w' 100 17 = oE (mT w t) z (w 111 0) (w 111 1) p ∧ ∀ j : Int, j < 4 * w 100 18 → w' 112 j = w 112 j) ∨ (v = some (vI 1) ∧ ¬ (kd (bA (mT w t) z p) = -1 ∨ w 100 18 = 6) ∧ oE (mT w t) z (w 111 0) (w 111 1) p = p + 4 ∧ p + 4 ≤ z ∧ SameF w w' [112] [(100, 17), (100, 18)] ∧ w' 100 17 = p + 4 ∧ w' 100 18 = w 100 18 + 1 ∧ (∀ j : Int, j < 4 * w 100 18 → w' 112 j = w 112 j) ∧ w' 112 (4 * w 100 18) = kd (bA (mT w t) z p) ∧ w' 112 (4 * w 100 18 + 1) = fg (mT w t) z (p + 1) 0 (w 111 0 - 1) ∧ w' 112 (4 * w 100 18 + 2) = fg (mT w t) z (p + 2) 0 (w 111 1 - 1) ∧ w' 112 (4 * w 100 18 + 3) = fg (mT w t) z (p + 3) 1 9)) := by
  have hm0 : mT w t = mT w t := rfl
  have hS0 : SameF w w [112] [] := SameF.rf _ _ _
  have hlo0 : ∀ j : Int, j < 4 * w 100 18 → w 112 j = w 112 j := fun _ _ => rfl
  have hz60 := hX0.2.2.1
  have hTp : Stc (up w 100 17 p) := hT0.putF (by decide)
  have hXp := hX0.put (r := 100) (i := 17) (x := p) (by decide) (by decide)
  have hT := hTp
  refine wp_aload_n (pc' := 1) rfl rfl rfl (by decide) ?_
  refine wp_iload_n (pc' := 2) rfl rfl rfl ?_
  refine wp_aload_n (pc' := 3) rfl rfl rfl (by decide) ?_
  refine wp_getI (ci := 10) (k0 := 17) (pc' := 6) rfl rfl (by decide) (by first | assumption | rfl) ?_
  refine wp_call (pc' := 9) rfl rfl rfl rfl rfl ⟨Nat.le_of_ble_eq_true rfl, Nat.le_of_ble_eq_true rfl, Nat.le_of_ble_eq_true rfl, Nat.le_of_ble_eq_true rfl, Nat.le_of_ble_eq_true rfl⟩ rfl (c_Mod_byteAtG hTp hXp.1 (by rw [up_eq]; omega)) ?_
  intro v1 w9 hq1
  rw [hq1.1, hq1.2]
  clear hq1 v1 w9
  rw [hXp.2, up_eq]
  dsimp only [Option.toList, List.cons_append, List.nil_append, List.append_nil]
  refine wp_call (pc' := 12) rfl rfl rfl rfl rfl ⟨Nat.le_of_ble_eq_true rfl, Nat.le_of_ble_eq_true rfl, Nat.le_of_ble_eq_true rfl, Nat.le_of_ble_eq_true rfl, Nat.le_of_ble_eq_true rfl⟩ rfl (c_Mod_kindBy) ?_
  rintro v1 w9 ⟨hv1, hw9⟩
  rcases Classical.em (kd (bA (mT w t) z p) = -1) with hk0 | hk0
  · skip
    rw [if_pos hk0] at hv1
    rw [hv1, hw9]
    clear hv1 hw9 v1 w9
    dsimp only [Option.toList, List.cons_append, List.nil_append, List.append_nil]
    refine wp_istore_n (pc' := 13) rfl rfl (Nat.le_of_ble_eq_true rfl) rfl ?_
    dsimp only [lset, lset2, List.set, List.getElem?_cons_zero, List.getElem?_cons_succ]
    refine wp_iload_n (pc' := 14) rfl rfl rfl ?_
    refine wp_bipush (a := -9) (pc' := 16) rfl rfl rfl ?_
    refine wp_icmp_eq (pc' := 19) (pt := 28) rfl rfl rfl (fun q_1 => ?_) (fun q_1 => absurd (by decide) q_1)
    refine wp_iconst (a := 0) (pc' := 29) rfl rfl rfl ?_
    refine wp_ret rfl rfl rfl ?_
    first
    | (exfalso; omega)
    | exact Or.inl ⟨rfl, Or.inl hk0, (SameF.rf _ _ _).put (Or.inr (by decide)), up_eq _ _ _ _, fun j _ => by rw [up_ne (by decide)]⟩
    | exact Or.inl ⟨rfl, Or.inr (by omega), (SameF.rf _ _ _).put (Or.inr (by decide)), up_eq _ _ _ _, fun j _ => by rw [up_ne (by decide)]⟩
  · skip
    rw [if_neg hk0] at hv1
    rw [hv1, hw9]
    clear hv1 hw9 v1 w9
    have hki := kd_in (bA (mT w t) z p)
    dsimp only [Option.toList, List.cons_append, List.nil_append, List.append_nil]
    refine wp_istore_n (pc' := 13) rfl rfl (Nat.le_of_ble_eq_true rfl) rfl ?_
    dsimp only [lset, lset2, List.set, List.getElem?_cons_zero, List.getElem?_cons_succ]
    refine wp_iload_n (pc' := 14) rfl rfl rfl ?_
    refine wp_bipush (a := -9) (pc' := 16) rfl rfl rfl ?_
    refine wp_icmp_eq (pc' := 19) (pt := 28) rfl rfl rfl (fun q_2 => ?_) (fun q_2 => ?_)
    · skip
      refine wp_iconst (a := 0) (pc' := 29) rfl rfl rfl ?_
      refine wp_ret rfl rfl rfl ?_
      first
      | (exfalso; omega)
      | exact Or.inl ⟨rfl, Or.inl hk0, (SameF.rf _ _ _).put (Or.inr (by decide)), up_eq _ _ _ _, fun j _ => by rw [up_ne (by decide)]⟩
      | exact Or.inl ⟨rfl, Or.inr (by omega), (SameF.rf _ _ _).put (Or.inr (by decide)), up_eq _ _ _ _, fun j _ => by rw [up_ne (by decide)]⟩
    · skip
      refine wp_aload_n (pc' := 20) rfl rfl rfl (by decide) ?_
      refine wp_getI (ci := 10) (k0 := 18) (pc' := 23) rfl rfl (by decide) (by first | assumption | rfl) ?_
      rw [up_at (show (18 : Int) ≠ 17 by decide)]
      refine wp_bipush (a := 6) (pc' := 25) rfl rfl rfl ?_
      refine wp_icmp_ne (pc' := 28) (pt := 30) rfl rfl rfl (fun q_3 => ?_) (fun q_3 => ?_)
      · skip
        refine wp_aload_n (pc' := 31) rfl rfl rfl (by decide) ?_
        refine wp_dupR (pc' := 32) rfl rfl ?_
        refine wp_getI (ci := 10) (k0 := 17) (pc' := 35) rfl rfl (by decide) (by first | assumption | rfl) ?_
        rw [up_eq]
        refine wp_iconst (a := 1) (pc' := 36) rfl rfl rfl ?_
        refine wp_iadd (pc' := 37) rfl rfl (by first | exact w32_id (by omega) (by omega) | rfl) ?_
        refine wp_putI (ci := 10) (k0 := 17) (pc' := 40) rfl rfl (by decide) (by first | assumption | rfl) ?_
        rw [up_up]
        have hT := hT0.putF (r := 100) (i := 17) (x := p + 1) (by decide)
        refine wp_iconst (a := 4) (pc' := 41) rfl rfl rfl ?_
        refine wp_aload_n (pc' := 42) rfl rfl rfl (by decide) ?_
        refine wp_getI (ci := 10) (k0 := 18) (pc' := 45) rfl rfl (by decide) (by first | assumption | rfl) ?_
        rw [up_at (show (18 : Int) ≠ 17 by decide)]
        refine wp_imul (pc' := 46) rfl rfl (by first | exact w32_id (by omega) (by omega) | rfl) ?_
        refine wp_istore_n (pc' := 47) rfl rfl (Nat.le_of_ble_eq_true rfl) rfl ?_
        dsimp only [lset, lset2, List.set, List.getElem?_cons_zero, List.getElem?_cons_succ]
        refine wp_aload_n (pc' := 48) rfl rfl rfl (by decide) ?_
        refine wp_getR (r' := 112) (ci := 10) (k0 := 21) (pc' := 51) rfl rfl (by decide) (by first | assumption | rfl) (hT.get 110 rfl) ?_
        refine wp_iload_n (pc' := 52) rfl rfl rfl ?_
        refine wp_iload_n (pc' := 53) rfl rfl rfl ?_
        refine wp_iastore (pc' := 54) rfl rfl (by first | assumption | rfl) (by omega) ?_
        rw [up_comm (show (100 : Int) ≠ 112 by decide)]
        obtain ⟨u1, hu1⟩ : ∃ x, x = up w 112 (4 * w 100 18) (kd (bA (mT w t) z p)) := ⟨_, rfl⟩
        rw [← hu1]
        have hT1 : Stc u1 := by rw [hu1]; exact hT0.putA (by decide)
        have hX1 : Tx u1 t z := by rw [hu1]; exact (hX0.put (by decide) (by decide)).1
        have hm1 : mT u1 t = mT w t := by rw [hu1, (hX0.put (by decide) (by decide)).2, hm0]
        have hS1 : SameF w u1 [112] [] := by rw [hu1]; exact hS0.put (Or.inl (by decide))
        have hT := hT1.putF (r := 100) (i := 17) (x := p + 1) (by decide)
        have e111_1 : u1 111 = w 111 := hS1.cell 111 (by decide) (by decide)
        have hlo1 : ∀ j : Int, j < 4 * w 100 18 → u1 112 j = w 112 j := fun j hj => by rw [hu1, up_at (by omega), hlo0 j hj]
        have r1_0 : u1 112 (4 * w 100 18) = (kd (bA (mT w t) z p)) := by rw [hu1, up_eq]
        refine wp_iconst (a := 1) (pc' := 55) rfl rfl rfl ?_
        refine wp_istore (pc' := 57) rfl rfl (Nat.le_of_ble_eq_true rfl) rfl ?_
        dsimp only [lset, lset2, List.set, List.getElem?_cons_zero, List.getElem?_cons_succ]
        refine wp_iload (pc' := 59) rfl rfl rfl ?_
        refine wp_iconst (a := 4) (pc' := 60) rfl rfl rfl ?_
        refine wp_icmp_ge (pc' := 63) (pt := 128) rfl rfl rfl (fun q_4 => absurd q_4 (by decide)) (fun q_4 => ?_)
        refine wp_aload_n (pc' := 64) rfl rfl rfl (by decide) ?_
        refine wp_getR (r' := 112) (ci := 10) (k0 := 21) (pc' := 67) rfl rfl (by decide) (by first | assumption | rfl) (hT.get 110 rfl) ?_
        refine wp_iload_n (pc' := 68) rfl rfl rfl ?_
        refine wp_iload (pc' := 70) rfl rfl rfl ?_
        refine wp_iadd (pc' := 71) rfl rfl (by first | exact w32_id (by omega) (by omega) | rfl) ?_
        refine wp_iload (pc' := 73) rfl rfl rfl ?_
        refine wp_iconst (a := 3) (pc' := 74) rfl rfl rfl ?_
        refine wp_icmp_ge (pc' := 77) (pt := 97) rfl rfl rfl (fun q_5 => absurd q_5 (by decide)) (fun q_5 => ?_)
        refine wp_aload_n (pc' := 78) rfl rfl rfl (by decide) ?_
        refine wp_iload_n (pc' := 79) rfl rfl rfl ?_
        refine wp_iconst (a := 0) (pc' := 80) rfl rfl rfl ?_
        refine wp_aload_n (pc' := 81) rfl rfl rfl (by decide) ?_
        refine wp_getR (r' := 111) (ci := 10) (k0 := 20) (pc' := 84) rfl rfl (by decide) (by first | assumption | rfl) (hT.get 109 rfl) ?_
        refine wp_iload (pc' := 86) rfl rfl rfl ?_
        refine wp_iconst (a := 1) (pc' := 87) rfl rfl rfl ?_
        refine wp_isub (pc' := 88) rfl rfl (by first | exact w32_id (by omega) (by omega) | rfl) ?_
        refine wp_iaload (pc' := 89) rfl rfl (by first | assumption | rfl) (by omega) ?_
        rw [up_ne (show (111 : Int) ≠ 100 by decide), e111_1]
        rw [show ((1 : Int) - 1) = 0 from rfl]
        refine wp_iconst (a := 1) (pc' := 90) rfl rfl rfl ?_
        refine wp_isub (pc' := 91) rfl rfl (by first | exact w32_id (by omega) (by omega) | rfl) ?_
        refine wp_call (pc' := 94) rfl rfl rfl rfl rfl ⟨Nat.le_of_ble_eq_true rfl, Nat.le_of_ble_eq_true rfl, Nat.le_of_ble_eq_true rfl, Nat.le_of_ble_eq_true rfl, Nat.le_of_ble_eq_true rfl⟩ rfl (c_Mod_figure (w := u1) (P := p + 1) (lo := 0) (hi := w 111 0 - 1) hT1 hX1 (by omega) (by decide)) ?_
        rintro v1 w9 ⟨hv1, hw9⟩
        rw [hm1] at hv1 hw9
        rcases Classical.em (fg (mT w t) z (p + 1) 0 (w 111 0 - 1) = -1) with hf1 | hf1
        · skip
          rw [if_pos hf1] at hw9 hv1
          rw [hv1, hw9]
          clear hv1 hw9 v1 w9
          dsimp only [Option.toList, List.cons_append, List.nil_append, List.append_nil]
          refine wp_goto (pc' := 105) rfl rfl ?_
          refine wp_iastore (pc' := 106) rfl rfl (by first | assumption | rfl) (by omega) ?_
          rw [up_comm (show (100 : Int) ≠ 112 by decide)]
          obtain ⟨u2, hu2⟩ : ∃ x, x = up u1 112 (4 * w 100 18 + 1) (-9) := ⟨_, rfl⟩
          rw [← hu2]
          have hT2 : Stc u2 := by rw [hu2]; exact hT1.putA (by decide)
          have hX2 : Tx u2 t z := by rw [hu2]; exact (hX1.put (by decide) (by decide)).1
          have hm2 : mT u2 t = mT w t := by rw [hu2, (hX1.put (by decide) (by decide)).2, hm1]
          have hS2 : SameF w u2 [112] [] := by rw [hu2]; exact hS1.put (Or.inl (by decide))
          have hT := hT2.putF (r := 100) (i := 17) (x := p + 1) (by decide)
          have e111_2 : u2 111 = w 111 := hS2.cell 111 (by decide) (by decide)
          have hlo2 : ∀ j : Int, j < 4 * w 100 18 → u2 112 j = w 112 j := fun j hj => by rw [hu2, up_at (by omega), hlo1 j hj]
          have r2_1 : u2 112 (4 * w 100 18 + 1) = (-9) := by rw [hu2, up_eq]
          have r2_0 : u2 112 (4 * w 100 18) = (kd (bA (mT w t) z p)) := by rw [hu2, up_at (by omega)]; exact r1_0
          refine wp_aload_n (pc' := 107) rfl rfl rfl (by decide) ?_
          refine wp_getR (r' := 112) (ci := 10) (k0 := 21) (pc' := 110) rfl rfl (by decide) (by first | assumption | rfl) (hT.get 110 rfl) ?_
          refine wp_iload_n (pc' := 111) rfl rfl rfl ?_
          refine wp_iload (pc' := 113) rfl rfl rfl ?_
          refine wp_iadd (pc' := 114) rfl rfl (by first | exact w32_id (by omega) (by omega) | rfl) ?_
          refine wp_iaload (pc' := 115) rfl rfl (by first | assumption | rfl) (by omega) ?_
          rw [up_ne (show (112 : Int) ≠ 100 by decide), r2_1]
          refine wp_bipush (a := -9) (pc' := 117) rfl rfl rfl ?_
          refine wp_icmp_ne (pc' := 120) (pt := 122) rfl rfl rfl (fun q_6 => ?_) (fun q_6 => ?_)
          · skip
            exfalso; omega
          · skip
            refine wp_iconst (a := 0) (pc' := 121) rfl rfl rfl ?_
            refine wp_ret rfl rfl rfl ?_
            have hh : oE (mT w t) z (w 111 0) (w 111 1) p = p + 1 := by
              unfold oE
              rw [if_neg hk0, if_pos hf1]
            exact Or.inr (Or.inl ⟨rfl, fun h => by rcases h with h | h; exact hk0 h; omega, by omega, (hS2.mono (fun r hr => hr) (fun x hx => absurd hx (by simp))).put (Or.inr (by decide)), by rw [up_eq, hh], fun j hj => by rw [up_ne (by decide)]; exact hlo2 j hj⟩)
        · skip
          rw [if_neg hf1] at hw9 hv1
          rw [hv1, hw9]
          clear hv1 hw9 v1 w9
          rw [show (p + 1 : Int) + 1 = p + 2 by omega]
          have hfl1 := fg_lt (by omega) hf1
          dsimp only [Option.toList, List.cons_append, List.nil_append, List.append_nil]
          refine wp_goto (pc' := 105) rfl rfl ?_
          refine wp_iastore (pc' := 106) rfl rfl (by first | assumption | rfl) (by omega) ?_
          rw [up_comm (show (100 : Int) ≠ 112 by decide)]
          obtain ⟨u2, hu2⟩ : ∃ x, x = up u1 112 (4 * w 100 18 + 1) (fg (mT w t) z (p + 1) 0 (w 111 0 - 1)) := ⟨_, rfl⟩
          rw [← hu2]
          have hT2 : Stc u2 := by rw [hu2]; exact hT1.putA (by decide)
          have hX2 : Tx u2 t z := by rw [hu2]; exact (hX1.put (by decide) (by decide)).1
          have hm2 : mT u2 t = mT w t := by rw [hu2, (hX1.put (by decide) (by decide)).2, hm1]
          have hS2 : SameF w u2 [112] [] := by rw [hu2]; exact hS1.put (Or.inl (by decide))
          have hT := hT2.putF (r := 100) (i := 17) (x := p + 2) (by decide)
          have e111_2 : u2 111 = w 111 := hS2.cell 111 (by decide) (by decide)
          have hlo2 : ∀ j : Int, j < 4 * w 100 18 → u2 112 j = w 112 j := fun j hj => by rw [hu2, up_at (by omega), hlo1 j hj]
          have r2_1 : u2 112 (4 * w 100 18 + 1) = (fg (mT w t) z (p + 1) 0 (w 111 0 - 1)) := by rw [hu2, up_eq]
          have r2_0 : u2 112 (4 * w 100 18) = (kd (bA (mT w t) z p)) := by rw [hu2, up_at (by omega)]; exact r1_0
          refine wp_aload_n (pc' := 107) rfl rfl rfl (by decide) ?_
          refine wp_getR (r' := 112) (ci := 10) (k0 := 21) (pc' := 110) rfl rfl (by decide) (by first | assumption | rfl) (hT.get 110 rfl) ?_
          refine wp_iload_n (pc' := 111) rfl rfl rfl ?_
          refine wp_iload (pc' := 113) rfl rfl rfl ?_
          refine wp_iadd (pc' := 114) rfl rfl (by first | exact w32_id (by omega) (by omega) | rfl) ?_
          refine wp_iaload (pc' := 115) rfl rfl (by first | assumption | rfl) (by omega) ?_
          rw [up_ne (show (112 : Int) ≠ 100 by decide), r2_1]
          refine wp_bipush (a := -9) (pc' := 117) rfl rfl rfl ?_
          refine wp_icmp_ne (pc' := 120) (pt := 122) rfl rfl rfl (fun q_7 => ?_) (fun q_7 => ?_)
          · skip
            refine wp_iinc (pc' := 125) rfl rfl rfl (inc_id (by omega) (by omega)) rfl ?_
            dsimp only [lset, lset2, List.set, List.getElem?_cons_zero, List.getElem?_cons_succ]
            refine wp_goto (pc' := 57) rfl rfl ?_
            refine wp_iload (pc' := 59) rfl rfl rfl ?_
            refine wp_iconst (a := 4) (pc' := 60) rfl rfl rfl ?_
            refine wp_icmp_ge (pc' := 63) (pt := 128) rfl rfl rfl (fun q_8 => absurd q_8 (by decide)) (fun q_8 => ?_)
            refine wp_aload_n (pc' := 64) rfl rfl rfl (by decide) ?_
            refine wp_getR (r' := 112) (ci := 10) (k0 := 21) (pc' := 67) rfl rfl (by decide) (by first | assumption | rfl) (hT.get 110 rfl) ?_
            refine wp_iload_n (pc' := 68) rfl rfl rfl ?_
            refine wp_iload (pc' := 70) rfl rfl rfl ?_
            refine wp_iadd (pc' := 71) rfl rfl (by first | exact w32_id (by omega) (by omega) | rfl) ?_
            refine wp_iload (pc' := 73) rfl rfl rfl ?_
            refine wp_iconst (a := 3) (pc' := 74) rfl rfl rfl ?_
            refine wp_icmp_ge (pc' := 77) (pt := 97) rfl rfl rfl (fun q_9 => absurd q_9 (by decide)) (fun q_9 => ?_)
            refine wp_aload_n (pc' := 78) rfl rfl rfl (by decide) ?_
            refine wp_iload_n (pc' := 79) rfl rfl rfl ?_
            refine wp_iconst (a := 0) (pc' := 80) rfl rfl rfl ?_
            refine wp_aload_n (pc' := 81) rfl rfl rfl (by decide) ?_
            refine wp_getR (r' := 111) (ci := 10) (k0 := 20) (pc' := 84) rfl rfl (by decide) (by first | assumption | rfl) (hT.get 109 rfl) ?_
            refine wp_iload (pc' := 86) rfl rfl rfl ?_
            refine wp_iconst (a := 1) (pc' := 87) rfl rfl rfl ?_
            refine wp_isub (pc' := 88) rfl rfl (by first | exact w32_id (by omega) (by omega) | rfl) ?_
            refine wp_iaload (pc' := 89) rfl rfl (by first | assumption | rfl) (by omega) ?_
            rw [up_ne (show (111 : Int) ≠ 100 by decide), e111_2]
            rw [show ((1 : Int) + 1 - 1) = 1 from rfl]
            refine wp_iconst (a := 1) (pc' := 90) rfl rfl rfl ?_
            refine wp_isub (pc' := 91) rfl rfl (by first | exact w32_id (by omega) (by omega) | rfl) ?_
            refine wp_call (pc' := 94) rfl rfl rfl rfl rfl ⟨Nat.le_of_ble_eq_true rfl, Nat.le_of_ble_eq_true rfl, Nat.le_of_ble_eq_true rfl, Nat.le_of_ble_eq_true rfl, Nat.le_of_ble_eq_true rfl⟩ rfl (c_Mod_figure (w := u2) (P := p + 2) (lo := 0) (hi := w 111 1 - 1) hT2 hX2 (by omega) (by decide)) ?_
            rintro v1 w9 ⟨hv1, hw9⟩
            rw [hm2] at hv1 hw9
            rcases Classical.em (fg (mT w t) z (p + 2) 0 (w 111 1 - 1) = -1) with hf2 | hf2
            · skip
              rw [if_pos hf2] at hw9 hv1
              rw [hv1, hw9]
              clear hv1 hw9 v1 w9
              dsimp only [Option.toList, List.cons_append, List.nil_append, List.append_nil]
              refine wp_goto (pc' := 105) rfl rfl ?_
              refine wp_iastore (pc' := 106) rfl rfl (by first | assumption | rfl) (by omega) ?_
              rw [up_comm (show (100 : Int) ≠ 112 by decide)]
              obtain ⟨u3, hu3⟩ : ∃ x, x = up u2 112 (4 * w 100 18 + (1 + 1)) (-9) := ⟨_, rfl⟩
              rw [← hu3]
              have hT3 : Stc u3 := by rw [hu3]; exact hT2.putA (by decide)
              have hX3 : Tx u3 t z := by rw [hu3]; exact (hX2.put (by decide) (by decide)).1
              have hm3 : mT u3 t = mT w t := by rw [hu3, (hX2.put (by decide) (by decide)).2, hm2]
              have hS3 : SameF w u3 [112] [] := by rw [hu3]; exact hS2.put (Or.inl (by decide))
              have hT := hT3.putF (r := 100) (i := 17) (x := p + 2) (by decide)
              have e111_3 : u3 111 = w 111 := hS3.cell 111 (by decide) (by decide)
              have hlo3 : ∀ j : Int, j < 4 * w 100 18 → u3 112 j = w 112 j := fun j hj => by rw [hu3, up_at (by omega), hlo2 j hj]
              have r3_2 : u3 112 (4 * w 100 18 + (1 + 1)) = (-9) := by rw [hu3, up_eq]
              have r3_0 : u3 112 (4 * w 100 18) = (kd (bA (mT w t) z p)) := by rw [hu3, up_at (by omega)]; exact r2_0
              have r3_1 : u3 112 (4 * w 100 18 + 1) = (fg (mT w t) z (p + 1) 0 (w 111 0 - 1)) := by rw [hu3, up_at (by omega)]; exact r2_1
              refine wp_aload_n (pc' := 107) rfl rfl rfl (by decide) ?_
              refine wp_getR (r' := 112) (ci := 10) (k0 := 21) (pc' := 110) rfl rfl (by decide) (by first | assumption | rfl) (hT.get 110 rfl) ?_
              refine wp_iload_n (pc' := 111) rfl rfl rfl ?_
              refine wp_iload (pc' := 113) rfl rfl rfl ?_
              refine wp_iadd (pc' := 114) rfl rfl (by first | exact w32_id (by omega) (by omega) | rfl) ?_
              refine wp_iaload (pc' := 115) rfl rfl (by first | assumption | rfl) (by omega) ?_
              rw [up_ne (show (112 : Int) ≠ 100 by decide), r3_2]
              refine wp_bipush (a := -9) (pc' := 117) rfl rfl rfl ?_
              refine wp_icmp_ne (pc' := 120) (pt := 122) rfl rfl rfl (fun q_10 => ?_) (fun q_10 => ?_)
              · skip
                exfalso; omega
              · skip
                refine wp_iconst (a := 0) (pc' := 121) rfl rfl rfl ?_
                refine wp_ret rfl rfl rfl ?_
                have hh : oE (mT w t) z (w 111 0) (w 111 1) p = p + 2 := by
                  unfold oE
                  rw [if_neg hk0, if_neg hf1, if_pos hf2]
                exact Or.inr (Or.inl ⟨rfl, fun h => by rcases h with h | h; exact hk0 h; omega, by omega, (hS3.mono (fun r hr => hr) (fun x hx => absurd hx (by simp))).put (Or.inr (by decide)), by rw [up_eq, hh], fun j hj => by rw [up_ne (by decide)]; exact hlo3 j hj⟩)
            · skip
              rw [if_neg hf2] at hw9 hv1
              rw [hv1, hw9]
              clear hv1 hw9 v1 w9
              rw [show (p + 2 : Int) + 1 = p + 3 by omega]
              have hfl2 := fg_lt (by omega) hf2
              dsimp only [Option.toList, List.cons_append, List.nil_append, List.append_nil]
              refine wp_goto (pc' := 105) rfl rfl ?_
              refine wp_iastore (pc' := 106) rfl rfl (by first | assumption | rfl) (by omega) ?_
              rw [up_comm (show (100 : Int) ≠ 112 by decide)]
              obtain ⟨u3, hu3⟩ : ∃ x, x = up u2 112 (4 * w 100 18 + (1 + 1)) (fg (mT w t) z (p + 2) 0 (w 111 1 - 1)) := ⟨_, rfl⟩
              rw [← hu3]
              have hT3 : Stc u3 := by rw [hu3]; exact hT2.putA (by decide)
              have hX3 : Tx u3 t z := by rw [hu3]; exact (hX2.put (by decide) (by decide)).1
              have hm3 : mT u3 t = mT w t := by rw [hu3, (hX2.put (by decide) (by decide)).2, hm2]
              have hS3 : SameF w u3 [112] [] := by rw [hu3]; exact hS2.put (Or.inl (by decide))
              have hT := hT3.putF (r := 100) (i := 17) (x := p + 3) (by decide)
              have e111_3 : u3 111 = w 111 := hS3.cell 111 (by decide) (by decide)
              have hlo3 : ∀ j : Int, j < 4 * w 100 18 → u3 112 j = w 112 j := fun j hj => by rw [hu3, up_at (by omega), hlo2 j hj]
              have r3_2 : u3 112 (4 * w 100 18 + (1 + 1)) = (fg (mT w t) z (p + 2) 0 (w 111 1 - 1)) := by rw [hu3, up_eq]
              have r3_0 : u3 112 (4 * w 100 18) = (kd (bA (mT w t) z p)) := by rw [hu3, up_at (by omega)]; exact r2_0
              have r3_1 : u3 112 (4 * w 100 18 + 1) = (fg (mT w t) z (p + 1) 0 (w 111 0 - 1)) := by rw [hu3, up_at (by omega)]; exact r2_1
              refine wp_aload_n (pc' := 107) rfl rfl rfl (by decide) ?_
              refine wp_getR (r' := 112) (ci := 10) (k0 := 21) (pc' := 110) rfl rfl (by decide) (by first | assumption | rfl) (hT.get 110 rfl) ?_
              refine wp_iload_n (pc' := 111) rfl rfl rfl ?_
              refine wp_iload (pc' := 113) rfl rfl rfl ?_
              refine wp_iadd (pc' := 114) rfl rfl (by first | exact w32_id (by omega) (by omega) | rfl) ?_
              refine wp_iaload (pc' := 115) rfl rfl (by first | assumption | rfl) (by omega) ?_
              rw [up_ne (show (112 : Int) ≠ 100 by decide), r3_2]
              refine wp_bipush (a := -9) (pc' := 117) rfl rfl rfl ?_
              refine wp_icmp_ne (pc' := 120) (pt := 122) rfl rfl rfl (fun q_11 => ?_) (fun q_11 => ?_)
              · skip
                refine wp_iinc (pc' := 125) rfl rfl rfl (inc_id (by omega) (by omega)) rfl ?_
                dsimp only [lset, lset2, List.set, List.getElem?_cons_zero, List.getElem?_cons_succ]
                refine wp_goto (pc' := 57) rfl rfl ?_
                refine wp_iload (pc' := 59) rfl rfl rfl ?_
                refine wp_iconst (a := 4) (pc' := 60) rfl rfl rfl ?_
                refine wp_icmp_ge (pc' := 63) (pt := 128) rfl rfl rfl (fun q_12 => absurd q_12 (by decide)) (fun q_12 => ?_)
                refine wp_aload_n (pc' := 64) rfl rfl rfl (by decide) ?_
                refine wp_getR (r' := 112) (ci := 10) (k0 := 21) (pc' := 67) rfl rfl (by decide) (by first | assumption | rfl) (hT.get 110 rfl) ?_
                refine wp_iload_n (pc' := 68) rfl rfl rfl ?_
                refine wp_iload (pc' := 70) rfl rfl rfl ?_
                refine wp_iadd (pc' := 71) rfl rfl (by first | exact w32_id (by omega) (by omega) | rfl) ?_
                refine wp_iload (pc' := 73) rfl rfl rfl ?_
                refine wp_iconst (a := 3) (pc' := 74) rfl rfl rfl ?_
                refine wp_icmp_ge (pc' := 77) (pt := 97) rfl rfl rfl (fun q_13 => ?_) (fun q_13 => absurd (by decide) q_13)
                refine wp_aload_n (pc' := 98) rfl rfl rfl (by decide) ?_
                refine wp_iload_n (pc' := 99) rfl rfl rfl ?_
                refine wp_iconst (a := 1) (pc' := 100) rfl rfl rfl ?_
                refine wp_bipush (a := 9) (pc' := 102) rfl rfl rfl ?_
                refine wp_call (pc' := 105) rfl rfl rfl rfl rfl ⟨Nat.le_of_ble_eq_true rfl, Nat.le_of_ble_eq_true rfl, Nat.le_of_ble_eq_true rfl, Nat.le_of_ble_eq_true rfl, Nat.le_of_ble_eq_true rfl⟩ rfl (c_Mod_figure (w := u3) (P := p + 3) (lo := 1) (hi := 9) hT3 hX3 (by omega) (by decide)) ?_
                rintro v1 w9 ⟨hv1, hw9⟩
                rw [hm3] at hv1 hw9
                rcases Classical.em (fg (mT w t) z (p + 3) 1 9 = -1) with hf3 | hf3
                · skip
                  rw [if_pos hf3] at hw9 hv1
                  rw [hv1, hw9]
                  clear hv1 hw9 v1 w9
                  dsimp only [Option.toList, List.cons_append, List.nil_append, List.append_nil]
                  refine wp_iastore (pc' := 106) rfl rfl (by first | assumption | rfl) (by omega) ?_
                  rw [up_comm (show (100 : Int) ≠ 112 by decide)]
                  obtain ⟨u4, hu4⟩ : ∃ x, x = up u3 112 (4 * w 100 18 + (1 + 1 + 1)) (-9) := ⟨_, rfl⟩
                  rw [← hu4]
                  have hT4 : Stc u4 := by rw [hu4]; exact hT3.putA (by decide)
                  have hX4 : Tx u4 t z := by rw [hu4]; exact (hX3.put (by decide) (by decide)).1
                  have hm4 : mT u4 t = mT w t := by rw [hu4, (hX3.put (by decide) (by decide)).2, hm3]
                  have hS4 : SameF w u4 [112] [] := by rw [hu4]; exact hS3.put (Or.inl (by decide))
                  have hT := hT4.putF (r := 100) (i := 17) (x := p + 3) (by decide)
                  have e111_4 : u4 111 = w 111 := hS4.cell 111 (by decide) (by decide)
                  have hlo4 : ∀ j : Int, j < 4 * w 100 18 → u4 112 j = w 112 j := fun j hj => by rw [hu4, up_at (by omega), hlo3 j hj]
                  have r4_3 : u4 112 (4 * w 100 18 + (1 + 1 + 1)) = (-9) := by rw [hu4, up_eq]
                  have r4_0 : u4 112 (4 * w 100 18) = (kd (bA (mT w t) z p)) := by rw [hu4, up_at (by omega)]; exact r3_0
                  have r4_1 : u4 112 (4 * w 100 18 + 1) = (fg (mT w t) z (p + 1) 0 (w 111 0 - 1)) := by rw [hu4, up_at (by omega)]; exact r3_1
                  have r4_2 : u4 112 (4 * w 100 18 + (1 + 1)) = (fg (mT w t) z (p + 2) 0 (w 111 1 - 1)) := by rw [hu4, up_at (by omega)]; exact r3_2
                  refine wp_aload_n (pc' := 107) rfl rfl rfl (by decide) ?_
                  refine wp_getR (r' := 112) (ci := 10) (k0 := 21) (pc' := 110) rfl rfl (by decide) (by first | assumption | rfl) (hT.get 110 rfl) ?_
                  refine wp_iload_n (pc' := 111) rfl rfl rfl ?_
                  refine wp_iload (pc' := 113) rfl rfl rfl ?_
                  refine wp_iadd (pc' := 114) rfl rfl (by first | exact w32_id (by omega) (by omega) | rfl) ?_
                  refine wp_iaload (pc' := 115) rfl rfl (by first | assumption | rfl) (by omega) ?_
                  rw [up_ne (show (112 : Int) ≠ 100 by decide), r4_3]
                  refine wp_bipush (a := -9) (pc' := 117) rfl rfl rfl ?_
                  refine wp_icmp_ne (pc' := 120) (pt := 122) rfl rfl rfl (fun q_14 => ?_) (fun q_14 => ?_)
                  · skip
                    exfalso; omega
                  · skip
                    refine wp_iconst (a := 0) (pc' := 121) rfl rfl rfl ?_
                    refine wp_ret rfl rfl rfl ?_
                    have hh : oE (mT w t) z (w 111 0) (w 111 1) p = p + 3 := by
                      unfold oE
                      rw [if_neg hk0, if_neg hf1, if_neg hf2, if_pos hf3]
                    exact Or.inr (Or.inl ⟨rfl, fun h => by rcases h with h | h; exact hk0 h; omega, by omega, (hS4.mono (fun r hr => hr) (fun x hx => absurd hx (by simp))).put (Or.inr (by decide)), by rw [up_eq, hh], fun j hj => by rw [up_ne (by decide)]; exact hlo4 j hj⟩)
                · skip
                  rw [if_neg hf3] at hw9 hv1
                  rw [hv1, hw9]
                  clear hv1 hw9 v1 w9
                  rw [show (p + 3 : Int) + 1 = p + 4 by omega]
                  have hfl3 := fg_lt (by omega) hf3
                  dsimp only [Option.toList, List.cons_append, List.nil_append, List.append_nil]
                  refine wp_iastore (pc' := 106) rfl rfl (by first | assumption | rfl) (by omega) ?_
                  rw [up_comm (show (100 : Int) ≠ 112 by decide)]
                  obtain ⟨u4, hu4⟩ : ∃ x, x = up u3 112 (4 * w 100 18 + (1 + 1 + 1)) (fg (mT w t) z (p + 3) 1 9) := ⟨_, rfl⟩
                  rw [← hu4]
                  have hT4 : Stc u4 := by rw [hu4]; exact hT3.putA (by decide)
                  have hX4 : Tx u4 t z := by rw [hu4]; exact (hX3.put (by decide) (by decide)).1
                  have hm4 : mT u4 t = mT w t := by rw [hu4, (hX3.put (by decide) (by decide)).2, hm3]
                  have hS4 : SameF w u4 [112] [] := by rw [hu4]; exact hS3.put (Or.inl (by decide))
                  have hT := hT4.putF (r := 100) (i := 17) (x := p + 4) (by decide)
                  have e111_4 : u4 111 = w 111 := hS4.cell 111 (by decide) (by decide)
                  have hlo4 : ∀ j : Int, j < 4 * w 100 18 → u4 112 j = w 112 j := fun j hj => by rw [hu4, up_at (by omega), hlo3 j hj]
                  have r4_3 : u4 112 (4 * w 100 18 + (1 + 1 + 1)) = (fg (mT w t) z (p + 3) 1 9) := by rw [hu4, up_eq]
                  have r4_0 : u4 112 (4 * w 100 18) = (kd (bA (mT w t) z p)) := by rw [hu4, up_at (by omega)]; exact r3_0
                  have r4_1 : u4 112 (4 * w 100 18 + 1) = (fg (mT w t) z (p + 1) 0 (w 111 0 - 1)) := by rw [hu4, up_at (by omega)]; exact r3_1
                  have r4_2 : u4 112 (4 * w 100 18 + (1 + 1)) = (fg (mT w t) z (p + 2) 0 (w 111 1 - 1)) := by rw [hu4, up_at (by omega)]; exact r3_2
                  refine wp_aload_n (pc' := 107) rfl rfl rfl (by decide) ?_
                  refine wp_getR (r' := 112) (ci := 10) (k0 := 21) (pc' := 110) rfl rfl (by decide) (by first | assumption | rfl) (hT.get 110 rfl) ?_
                  refine wp_iload_n (pc' := 111) rfl rfl rfl ?_
                  refine wp_iload (pc' := 113) rfl rfl rfl ?_
                  refine wp_iadd (pc' := 114) rfl rfl (by first | exact w32_id (by omega) (by omega) | rfl) ?_
                  refine wp_iaload (pc' := 115) rfl rfl (by first | assumption | rfl) (by omega) ?_
                  rw [up_ne (show (112 : Int) ≠ 100 by decide), r4_3]
                  refine wp_bipush (a := -9) (pc' := 117) rfl rfl rfl ?_
                  refine wp_icmp_ne (pc' := 120) (pt := 122) rfl rfl rfl (fun q_15 => ?_) (fun q_15 => ?_)
                  · skip
                    refine wp_iinc (pc' := 125) rfl rfl rfl (inc_id (by omega) (by omega)) rfl ?_
                    dsimp only [lset, lset2, List.set, List.getElem?_cons_zero, List.getElem?_cons_succ]
                    refine wp_goto (pc' := 57) rfl rfl ?_
                    refine wp_iload (pc' := 59) rfl rfl rfl ?_
                    refine wp_iconst (a := 4) (pc' := 60) rfl rfl rfl ?_
                    refine wp_icmp_ge (pc' := 63) (pt := 128) rfl rfl rfl (fun q_16 => ?_) (fun q_16 => absurd (by decide) q_16)
                    refine wp_aload_n (pc' := 129) rfl rfl rfl (by decide) ?_
                    refine wp_dupR (pc' := 130) rfl rfl ?_
                    refine wp_getI (ci := 10) (k0 := 18) (pc' := 133) rfl rfl (by decide) (by first | assumption | rfl) ?_
                    have k18 : u4 100 18 = w 100 18 := hS4 100 18 (by decide) (by decide)
                    rw [up_at (show (18 : Int) ≠ 17 by decide), k18]
                    refine wp_iconst (a := 1) (pc' := 134) rfl rfl rfl ?_
                    refine wp_iadd (pc' := 135) rfl rfl (by first | exact w32_id (by omega) (by omega) | rfl) ?_
                    refine wp_putI (ci := 10) (k0 := 18) (pc' := 138) rfl rfl (by decide) (by first | assumption | rfl) ?_
                    refine wp_iconst (a := 1) (pc' := 139) rfl rfl rfl ?_
                    refine wp_ret rfl rfl rfl ?_
                    have hh : oE (mT w t) z (w 111 0) (w 111 1) p = p + 4 := by
                      unfold oE
                      rw [if_neg hk0, if_neg hf1, if_neg hf2, if_neg hf3]
                    refine Or.inr (Or.inr ⟨rfl, fun h => by rcases h with h | h; exact hk0 h; omega, hh, by omega, ((hS4.mono (fun r hr => hr) (fun x hx => absurd hx (by simp))).put (Or.inr (by decide))).put (Or.inr (by decide)), by rw [up_at (by decide), up_eq], by rw [up_eq], fun j hj => by rw [up_ne (by decide), up_ne (by decide)]; exact hlo4 j hj, ?_, ?_, ?_, ?_⟩)
                    · rw [up_ne (by decide), up_ne (by decide)]; exact r4_0
                    · rw [up_ne (by decide), up_ne (by decide)]; exact r4_1
                    · rw [up_ne (by decide), up_ne (by decide)]; exact r4_2
                    · rw [up_ne (by decide), up_ne (by decide)]; exact r4_3
                  · skip
                    exfalso; omega
              · skip
                exfalso; omega
          · skip
            exfalso; omega
      · skip
        refine wp_iconst (a := 0) (pc' := 29) rfl rfl rfl ?_
        refine wp_ret rfl rfl rfl ?_
        first
        | (exfalso; omega)
        | exact Or.inl ⟨rfl, Or.inl hk0, (SameF.rf _ _ _).put (Or.inr (by decide)), up_eq _ _ _ _, fun j _ => by rw [up_ne (by decide)]⟩
        | exact Or.inl ⟨rfl, Or.inr (by omega), (SameF.rf _ _ _).put (Or.inr (by decide)), up_eq _ _ _ _, fun j _ => by rw [up_ne (by decide)]⟩
