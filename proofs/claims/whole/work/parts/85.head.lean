/-! the reference reads the head -/
set_option maxRecDepth 20000 in
set_option maxHeartbeats 4000000 in
theorem c_Mod_readsHead {w : Hp} {d : Nat} {t z p : Int} (hT0 : Stc w) (hX0 : Tx w t z) (hp : 0 ≤ p ∧ p ≤ z) : WP SH (d + 2) 162 0 [some (vR 100), some (vI t), none] [] (up w 100 17 p) (fun v w' => (v = some (vI 0) ∧ hE (mT w t) z p < p + 5 ∧ SameF w w' [111] [(100, 17)] ∧ w' 100 17 = hE (mT w t) z p) ∨ (v = some (vI 1) ∧ hE (mT w t) z p = p + 5 ∧ p + 5 ≤ z ∧ (3 ≤ fg (mT w t) z (p + 1) 3 5 ∧ fg (mT w t) z (p + 1) 3 5 ≤ 5) ∧ (3 ≤ fg (mT w t) z (p + 2) 3 5 ∧ fg (mT w t) z (p + 2) 3 5 ≤ 5) ∧ (0 ≤ fg (mT w t) z (p + 3) 0 (fg (mT w t) z (p + 1) 3 5 - 1) ∧ fg (mT w t) z (p + 3) 0 (fg (mT w t) z (p + 1) 3 5 - 1) ≤ fg (mT w t) z (p + 1) 3 5 - 1) ∧ (0 ≤ fg (mT w t) z (p + 4) 0 (fg (mT w t) z (p + 2) 3 5 - 1) ∧ fg (mT w t) z (p + 4) 0 (fg (mT w t) z (p + 2) 3 5 - 1) ≤ fg (mT w t) z (p + 2) 3 5 - 1) ∧ SameF w w' [111] [(100, 17), (100, 19)] ∧ w' 100 17 = p + 5 ∧ w' 100 19 = 1 ∧ w' 111 0 = fg (mT w t) z (p + 1) 3 5 ∧ w' 111 1 = fg (mT w t) z (p + 2) 3 5 ∧ w' 111 2 = fg (mT w t) z (p + 3) 0 (fg (mT w t) z (p + 1) 3 5 - 1) ∧ w' 111 3 = fg (mT w t) z (p + 4) 0 (fg (mT w t) z (p + 2) 3 5 - 1))) := by
  have hm0 : mT w t = mT w t := rfl
  have hS0 : SameF w w [111] [] := SameF.rf _ _ _
  have hz60 := hX0.2.2.1
  have hTp : Stc (up w 100 17 p) := hT0.putF (by decide)
  have hXp := hX0.put (r := 100) (i := 17) (x := p) (by decide) (by decide)
  have hT := hTp
  refine wp_aload_n (pc' := 1) rfl rfl rfl (by decide) ?_
  refine wp_iload_n (pc' := 2) rfl rfl rfl ?_
  refine wp_aload_n (pc' := 3) rfl rfl rfl (by decide) ?_
  refine wp_getI (ci := 10) (k0 := 17) (pc' := 6) rfl rfl (by decide) (by first | assumption | rfl) ?_
  refine wp_call (pc' := 9) rfl rfl rfl rfl rfl ⟨Nat.le_of_ble_eq_true rfl, Nat.le_of_ble_eq_true rfl, Nat.le_of_ble_eq_true rfl, Nat.le_of_ble_eq_true rfl, Nat.le_of_ble_eq_true rfl⟩ rfl (c_Mod_byteAtG hTp hXp.1 (by rw [up_eq]; omega)) ?_
  intro v1 w9 hq1
  rw [hq1.1, hq1.2]
  clear hq1 v1 w9
  rw [hXp.2, up_eq]
  dsimp only [Option.toList, List.cons_append, List.nil_append, List.append_nil]
  refine wp_bipush (a := 108) (pc' := 11) rfl rfl rfl ?_
  refine wp_icmp_eq (pc' := 14) (pt := 16) rfl rfl rfl (fun q_1 => ?_) (fun q_1 => ?_)
  · skip
    refine wp_aload_n (pc' := 17) rfl rfl rfl (by decide) ?_
    refine wp_dupR (pc' := 18) rfl rfl ?_
    refine wp_getI (ci := 10) (k0 := 17) (pc' := 21) rfl rfl (by decide) (by first | assumption | rfl) ?_
    rw [up_eq]
    refine wp_iconst (a := 1) (pc' := 22) rfl rfl rfl ?_
    refine wp_iadd (pc' := 23) rfl rfl (by first | exact w32_id (by omega) (by omega) | rfl) ?_
    refine wp_putI (ci := 10) (k0 := 17) (pc' := 26) rfl rfl (by decide) (by first | assumption | rfl) ?_
    rw [up_up]
    refine wp_iconst (a := 0) (pc' := 27) rfl rfl rfl ?_
    refine wp_istore_n (pc' := 28) rfl rfl (Nat.le_of_ble_eq_true rfl) rfl ?_
    dsimp only [lset, lset2, List.set, List.getElem?_cons_zero, List.getElem?_cons_succ]
    refine wp_iload_n (pc' := 29) rfl rfl rfl ?_
    refine wp_iconst (a := 4) (pc' := 30) rfl rfl rfl ?_
    refine wp_icmp_ge (pc' := 33) (pt := 89) rfl rfl rfl (fun q_2 => absurd q_2 (by decide)) (fun q_2 => ?_)
    refine wp_aload_n (pc' := 34) rfl rfl rfl (by decide) ?_
    refine wp_getR (r' := 111) (ci := 10) (k0 := 20) (pc' := 37) rfl rfl (by decide) (by first | assumption | rfl) (hT.get 109 rfl) ?_
    refine wp_iload_n (pc' := 38) rfl rfl rfl ?_
    refine wp_iload_n (pc' := 39) rfl rfl rfl ?_
    refine wp_iconst (a := 2) (pc' := 40) rfl rfl rfl ?_
    refine wp_icmp_ge (pc' := 43) (pt := 53) rfl rfl rfl (fun q_3 => absurd q_3 (by decide)) (fun q_3 => ?_)
    refine wp_aload_n (pc' := 44) rfl rfl rfl (by decide) ?_
    refine wp_iload_n (pc' := 45) rfl rfl rfl ?_
    refine wp_iconst (a := 3) (pc' := 46) rfl rfl rfl ?_
    refine wp_iconst (a := 5) (pc' := 47) rfl rfl rfl ?_
    refine wp_call (pc' := 50) rfl rfl rfl rfl rfl ⟨Nat.le_of_ble_eq_true rfl, Nat.le_of_ble_eq_true rfl, Nat.le_of_ble_eq_true rfl, Nat.le_of_ble_eq_true rfl, Nat.le_of_ble_eq_true rfl⟩ rfl (c_Mod_figure (w := w) (P := p + 1) (lo := 3) (hi := 5) hT0 hX0 (by omega) (by decide)) ?_
    rintro v1 w9 ⟨hv1, hw9⟩
    rw [hm0] at hv1 hw9
    rcases Classical.em (fg (mT w t) z (p + 1) 3 5 = -1) with hf1 | hf1
    · skip
      rw [if_pos hf1] at hw9 hv1
      rw [hv1, hw9]
      clear hv1 hw9 v1 w9
      dsimp only [Option.toList, List.cons_append, List.nil_append, List.append_nil]
      refine wp_goto (pc' := 69) rfl rfl ?_
      refine wp_iastore (pc' := 70) rfl rfl (by first | assumption | rfl) (by omega) ?_
      rw [up_comm (show (100 : Int) ≠ 111 by decide)]
      obtain ⟨u1, hu1⟩ : ∃ x, x = up w 111 0 (-9) := ⟨_, rfl⟩
      rw [← hu1]
      have hT1 : Stc u1 := by rw [hu1]; exact hT0.putA (by decide)
      have hX1 : Tx u1 t z := by rw [hu1]; exact (hX0.put (by decide) (by decide)).1
      have hm1 : mT u1 t = mT w t := by rw [hu1, (hX0.put (by decide) (by decide)).2, hm0]
      have hS1 : SameF w u1 [111] [] := by rw [hu1]; exact hS0.put (Or.inl (by decide))
      have hT := hT1.putF (r := 100) (i := 17) (x := p + 1) (by decide)
      have r1_0 : u1 111 0 = (-9) := by rw [hu1, up_eq]
      refine wp_aload_n (pc' := 71) rfl rfl rfl (by decide) ?_
      refine wp_getR (r' := 111) (ci := 10) (k0 := 20) (pc' := 74) rfl rfl (by decide) (by first | assumption | rfl) (hT.get 109 rfl) ?_
      refine wp_iload_n (pc' := 75) rfl rfl rfl ?_
      refine wp_iaload (pc' := 76) rfl rfl (by first | assumption | rfl) (by omega) ?_
      rw [up_ne (show (111 : Int) ≠ 100 by decide), r1_0]
      refine wp_bipush (a := -9) (pc' := 78) rfl rfl rfl ?_
      refine wp_icmp_ne (pc' := 81) (pt := 83) rfl rfl rfl (fun q_4 => ?_) (fun q_4 => ?_)
      · skip
        exfalso; omega
      · skip
        refine wp_iconst (a := 0) (pc' := 82) rfl rfl rfl ?_
        refine wp_ret rfl rfl rfl ?_
        have hh : hE (mT w t) z p = p + 1 := by
          unfold hE
          rw [if_neg (by omega), if_pos hf1]
        exact Or.inl ⟨rfl, by omega, (hS1.mono (fun r hr => hr) (fun x hx => absurd hx (by simp))).put (Or.inr (by decide)), by rw [up_eq, hh]⟩
    · skip
      rw [if_neg hf1] at hw9 hv1
      rw [hv1, hw9]
      clear hv1 hw9 v1 w9
      rw [show (p + 1 : Int) + 1 = p + 2 by omega]
      have hfl1 := fg_lt (by omega) hf1
      dsimp only [Option.toList, List.cons_append, List.nil_append, List.append_nil]
      refine wp_goto (pc' := 69) rfl rfl ?_
      refine wp_iastore (pc' := 70) rfl rfl (by first | assumption | rfl) (by omega) ?_
      rw [up_comm (show (100 : Int) ≠ 111 by decide)]
      obtain ⟨u1, hu1⟩ : ∃ x, x = up w 111 0 (fg (mT w t) z (p + 1) 3 5) := ⟨_, rfl⟩
      rw [← hu1]
      have hT1 : Stc u1 := by rw [hu1]; exact hT0.putA (by decide)
      have hX1 : Tx u1 t z := by rw [hu1]; exact (hX0.put (by decide) (by decide)).1
      have hm1 : mT u1 t = mT w t := by rw [hu1, (hX0.put (by decide) (by decide)).2, hm0]
      have hS1 : SameF w u1 [111] [] := by rw [hu1]; exact hS0.put (Or.inl (by decide))
      have hT := hT1.putF (r := 100) (i := 17) (x := p + 2) (by decide)
      have r1_0 : u1 111 0 = (fg (mT w t) z (p + 1) 3 5) := by rw [hu1, up_eq]
      refine wp_aload_n (pc' := 71) rfl rfl rfl (by decide) ?_
      refine wp_getR (r' := 111) (ci := 10) (k0 := 20) (pc' := 74) rfl rfl (by decide) (by first | assumption | rfl) (hT.get 109 rfl) ?_
      refine wp_iload_n (pc' := 75) rfl rfl rfl ?_
      refine wp_iaload (pc' := 76) rfl rfl (by first | assumption | rfl) (by omega) ?_
      rw [up_ne (show (111 : Int) ≠ 100 by decide), r1_0]
      refine wp_bipush (a := -9) (pc' := 78) rfl rfl rfl ?_
      refine wp_icmp_ne (pc' := 81) (pt := 83) rfl rfl rfl (fun q_5 => ?_) (fun q_5 => ?_)
      · skip
        skip
        refine wp_iinc (pc' := 86) rfl rfl rfl (inc_id (by omega) (by omega)) rfl ?_
        dsimp only [lset, lset2, List.set, List.getElem?_cons_zero, List.getElem?_cons_succ]
        refine wp_goto (pc' := 28) rfl rfl ?_
        refine wp_iload_n (pc' := 29) rfl rfl rfl ?_
        refine wp_iconst (a := 4) (pc' := 30) rfl rfl rfl ?_
        refine wp_icmp_ge (pc' := 33) (pt := 89) rfl rfl rfl (fun q_6 => absurd q_6 (by decide)) (fun q_6 => ?_)
        refine wp_aload_n (pc' := 34) rfl rfl rfl (by decide) ?_
        refine wp_getR (r' := 111) (ci := 10) (k0 := 20) (pc' := 37) rfl rfl (by decide) (by first | assumption | rfl) (hT.get 109 rfl) ?_
        refine wp_iload_n (pc' := 38) rfl rfl rfl ?_
        refine wp_iload_n (pc' := 39) rfl rfl rfl ?_
        refine wp_iconst (a := 2) (pc' := 40) rfl rfl rfl ?_
        refine wp_icmp_ge (pc' := 43) (pt := 53) rfl rfl rfl (fun q_7 => absurd q_7 (by decide)) (fun q_7 => ?_)
        refine wp_aload_n (pc' := 44) rfl rfl rfl (by decide) ?_
        refine wp_iload_n (pc' := 45) rfl rfl rfl ?_
        refine wp_iconst (a := 3) (pc' := 46) rfl rfl rfl ?_
        refine wp_iconst (a := 5) (pc' := 47) rfl rfl rfl ?_
        refine wp_call (pc' := 50) rfl rfl rfl rfl rfl ⟨Nat.le_of_ble_eq_true rfl, Nat.le_of_ble_eq_true rfl, Nat.le_of_ble_eq_true rfl, Nat.le_of_ble_eq_true rfl, Nat.le_of_ble_eq_true rfl⟩ rfl (c_Mod_figure (w := u1) (P := p + 2) (lo := 3) (hi := 5) hT1 hX1 (by omega) (by decide)) ?_
        rintro v1 w9 ⟨hv1, hw9⟩
        rw [hm1] at hv1 hw9
        rcases Classical.em (fg (mT w t) z (p + 2) 3 5 = -1) with hf2 | hf2
        · skip
          rw [if_pos hf2] at hw9 hv1
          rw [hv1, hw9]
          clear hv1 hw9 v1 w9
          dsimp only [Option.toList, List.cons_append, List.nil_append, List.append_nil]
          refine wp_goto (pc' := 69) rfl rfl ?_
          refine wp_iastore (pc' := 70) rfl rfl (by first | assumption | rfl) (by omega) ?_
          rw [up_comm (show (100 : Int) ≠ 111 by decide)]
          obtain ⟨u2, hu2⟩ : ∃ x, x = up u1 111 (0 + 1) (-9) := ⟨_, rfl⟩
          rw [← hu2]
          have hT2 : Stc u2 := by rw [hu2]; exact hT1.putA (by decide)
          have hX2 : Tx u2 t z := by rw [hu2]; exact (hX1.put (by decide) (by decide)).1
          have hm2 : mT u2 t = mT w t := by rw [hu2, (hX1.put (by decide) (by decide)).2, hm1]
          have hS2 : SameF w u2 [111] [] := by rw [hu2]; exact hS1.put (Or.inl (by decide))
          have hT := hT2.putF (r := 100) (i := 17) (x := p + 2) (by decide)
          have r2_1 : u2 111 (0 + 1) = (-9) := by rw [hu2, up_eq]
          have r2_0 : u2 111 0 = fg (mT w t) z (p + 1) 3 5 := by rw [hu2, up_at (by decide)]; exact r1_0
          refine wp_aload_n (pc' := 71) rfl rfl rfl (by decide) ?_
          refine wp_getR (r' := 111) (ci := 10) (k0 := 20) (pc' := 74) rfl rfl (by decide) (by first | assumption | rfl) (hT.get 109 rfl) ?_
          refine wp_iload_n (pc' := 75) rfl rfl rfl ?_
          refine wp_iaload (pc' := 76) rfl rfl (by first | assumption | rfl) (by omega) ?_
          rw [up_ne (show (111 : Int) ≠ 100 by decide), r2_1]
          refine wp_bipush (a := -9) (pc' := 78) rfl rfl rfl ?_
          refine wp_icmp_ne (pc' := 81) (pt := 83) rfl rfl rfl (fun q_8 => ?_) (fun q_8 => ?_)
          · skip
            exfalso; omega
          · skip
            refine wp_iconst (a := 0) (pc' := 82) rfl rfl rfl ?_
            refine wp_ret rfl rfl rfl ?_
            have hh : hE (mT w t) z p = p + 2 := by
              unfold hE
              rw [if_neg (by omega), if_neg hf1, if_pos hf2]
            exact Or.inl ⟨rfl, by omega, (hS2.mono (fun r hr => hr) (fun x hx => absurd hx (by simp))).put (Or.inr (by decide)), by rw [up_eq, hh]⟩
        · skip
          rw [if_neg hf2] at hw9 hv1
          rw [hv1, hw9]
          clear hv1 hw9 v1 w9
          rw [show (p + 2 : Int) + 1 = p + 3 by omega]
          have hfl2 := fg_lt (by omega) hf2
          dsimp only [Option.toList, List.cons_append, List.nil_append, List.append_nil]
          refine wp_goto (pc' := 69) rfl rfl ?_
          refine wp_iastore (pc' := 70) rfl rfl (by first | assumption | rfl) (by omega) ?_
          rw [up_comm (show (100 : Int) ≠ 111 by decide)]
          obtain ⟨u2, hu2⟩ : ∃ x, x = up u1 111 (0 + 1) (fg (mT w t) z (p + 2) 3 5) := ⟨_, rfl⟩
          rw [← hu2]
          have hT2 : Stc u2 := by rw [hu2]; exact hT1.putA (by decide)
          have hX2 : Tx u2 t z := by rw [hu2]; exact (hX1.put (by decide) (by decide)).1
          have hm2 : mT u2 t = mT w t := by rw [hu2, (hX1.put (by decide) (by decide)).2, hm1]
          have hS2 : SameF w u2 [111] [] := by rw [hu2]; exact hS1.put (Or.inl (by decide))
          have hT := hT2.putF (r := 100) (i := 17) (x := p + 3) (by decide)
          have r2_1 : u2 111 (0 + 1) = (fg (mT w t) z (p + 2) 3 5) := by rw [hu2, up_eq]
          have r2_0 : u2 111 0 = fg (mT w t) z (p + 1) 3 5 := by rw [hu2, up_at (by decide)]; exact r1_0
          refine wp_aload_n (pc' := 71) rfl rfl rfl (by decide) ?_
          refine wp_getR (r' := 111) (ci := 10) (k0 := 20) (pc' := 74) rfl rfl (by decide) (by first | assumption | rfl) (hT.get 109 rfl) ?_
          refine wp_iload_n (pc' := 75) rfl rfl rfl ?_
          refine wp_iaload (pc' := 76) rfl rfl (by first | assumption | rfl) (by omega) ?_
          rw [up_ne (show (111 : Int) ≠ 100 by decide), r2_1]
          refine wp_bipush (a := -9) (pc' := 78) rfl rfl rfl ?_
          refine wp_icmp_ne (pc' := 81) (pt := 83) rfl rfl rfl (fun q_9 => ?_) (fun q_9 => ?_)
          · skip
            skip
            refine wp_iinc (pc' := 86) rfl rfl rfl (inc_id (by omega) (by omega)) rfl ?_
            dsimp only [lset, lset2, List.set, List.getElem?_cons_zero, List.getElem?_cons_succ]
            refine wp_goto (pc' := 28) rfl rfl ?_
            refine wp_iload_n (pc' := 29) rfl rfl rfl ?_
            refine wp_iconst (a := 4) (pc' := 30) rfl rfl rfl ?_
            refine wp_icmp_ge (pc' := 33) (pt := 89) rfl rfl rfl (fun q_10 => absurd q_10 (by decide)) (fun q_10 => ?_)
            refine wp_aload_n (pc' := 34) rfl rfl rfl (by decide) ?_
            refine wp_getR (r' := 111) (ci := 10) (k0 := 20) (pc' := 37) rfl rfl (by decide) (by first | assumption | rfl) (hT.get 109 rfl) ?_
            refine wp_iload_n (pc' := 38) rfl rfl rfl ?_
            refine wp_iload_n (pc' := 39) rfl rfl rfl ?_
            refine wp_iconst (a := 2) (pc' := 40) rfl rfl rfl ?_
            refine wp_icmp_ge (pc' := 43) (pt := 53) rfl rfl rfl (fun q_11 => ?_) (fun q_11 => absurd (by decide) q_11)
            refine wp_aload_n (pc' := 54) rfl rfl rfl (by decide) ?_
            refine wp_iload_n (pc' := 55) rfl rfl rfl ?_
            refine wp_iconst (a := 0) (pc' := 56) rfl rfl rfl ?_
            refine wp_aload_n (pc' := 57) rfl rfl rfl (by decide) ?_
            refine wp_getR (r' := 111) (ci := 10) (k0 := 20) (pc' := 60) rfl rfl (by decide) (by first | assumption | rfl) (hT.get 109 rfl) ?_
            refine wp_iload_n (pc' := 61) rfl rfl rfl ?_
            refine wp_iconst (a := 2) (pc' := 62) rfl rfl rfl ?_
            refine wp_isub (pc' := 63) rfl rfl (by first | exact w32_id (by omega) (by omega) | rfl) ?_
            refine wp_iaload (pc' := 64) rfl rfl (by first | assumption | rfl) (by omega) ?_
            rw [up_ne (show (111 : Int) ≠ 100 by decide), show ((0 + 1 + 1) - 2 : Int) = 0 from rfl, r2_0]
            refine wp_iconst (a := 1) (pc' := 65) rfl rfl rfl ?_
            refine wp_isub (pc' := 66) rfl rfl (by first | exact w32_id (by omega) (by omega) | rfl) ?_
            refine wp_call (pc' := 69) rfl rfl rfl rfl rfl ⟨Nat.le_of_ble_eq_true rfl, Nat.le_of_ble_eq_true rfl, Nat.le_of_ble_eq_true rfl, Nat.le_of_ble_eq_true rfl, Nat.le_of_ble_eq_true rfl⟩ rfl (c_Mod_figure (w := u2) (P := p + 3) (lo := 0) (hi := fg (mT w t) z (p + 1) 3 5 - 1) hT2 hX2 (by omega) (by decide)) ?_
            rintro v1 w9 ⟨hv1, hw9⟩
            rw [hm2] at hv1 hw9
            rcases Classical.em (fg (mT w t) z (p + 3) 0 (fg (mT w t) z (p + 1) 3 5 - 1) = -1) with hf3 | hf3
            · skip
              rw [if_pos hf3] at hw9 hv1
              rw [hv1, hw9]
              clear hv1 hw9 v1 w9
              dsimp only [Option.toList, List.cons_append, List.nil_append, List.append_nil]
              refine wp_iastore (pc' := 70) rfl rfl (by first | assumption | rfl) (by omega) ?_
              rw [up_comm (show (100 : Int) ≠ 111 by decide)]
              obtain ⟨u3, hu3⟩ : ∃ x, x = up u2 111 (0 + 1 + 1) (-9) := ⟨_, rfl⟩
              rw [← hu3]
              have hT3 : Stc u3 := by rw [hu3]; exact hT2.putA (by decide)
              have hX3 : Tx u3 t z := by rw [hu3]; exact (hX2.put (by decide) (by decide)).1
              have hm3 : mT u3 t = mT w t := by rw [hu3, (hX2.put (by decide) (by decide)).2, hm2]
              have hS3 : SameF w u3 [111] [] := by rw [hu3]; exact hS2.put (Or.inl (by decide))
              have hT := hT3.putF (r := 100) (i := 17) (x := p + 3) (by decide)
              have r3_2 : u3 111 (0 + 1 + 1) = (-9) := by rw [hu3, up_eq]
              have r3_0 : u3 111 0 = fg (mT w t) z (p + 1) 3 5 := by rw [hu3, up_at (by decide)]; exact r2_0
              have r3_1 : u3 111 (0 + 1) = fg (mT w t) z (p + 2) 3 5 := by rw [hu3, up_at (by decide)]; exact r2_1
              refine wp_aload_n (pc' := 71) rfl rfl rfl (by decide) ?_
              refine wp_getR (r' := 111) (ci := 10) (k0 := 20) (pc' := 74) rfl rfl (by decide) (by first | assumption | rfl) (hT.get 109 rfl) ?_
              refine wp_iload_n (pc' := 75) rfl rfl rfl ?_
              refine wp_iaload (pc' := 76) rfl rfl (by first | assumption | rfl) (by omega) ?_
              rw [up_ne (show (111 : Int) ≠ 100 by decide), r3_2]
              refine wp_bipush (a := -9) (pc' := 78) rfl rfl rfl ?_
              refine wp_icmp_ne (pc' := 81) (pt := 83) rfl rfl rfl (fun q_12 => ?_) (fun q_12 => ?_)
              · skip
                exfalso; omega
              · skip
                refine wp_iconst (a := 0) (pc' := 82) rfl rfl rfl ?_
                refine wp_ret rfl rfl rfl ?_
                have hh : hE (mT w t) z p = p + 3 := by
                  unfold hE
                  rw [if_neg (by omega), if_neg hf1, if_neg hf2, if_pos hf3]
                exact Or.inl ⟨rfl, by omega, (hS3.mono (fun r hr => hr) (fun x hx => absurd hx (by simp))).put (Or.inr (by decide)), by rw [up_eq, hh]⟩
            · skip
              rw [if_neg hf3] at hw9 hv1
              rw [hv1, hw9]
              clear hv1 hw9 v1 w9
              rw [show (p + 3 : Int) + 1 = p + 4 by omega]
              have hfl3 := fg_lt (by omega) hf3
              dsimp only [Option.toList, List.cons_append, List.nil_append, List.append_nil]
              refine wp_iastore (pc' := 70) rfl rfl (by first | assumption | rfl) (by omega) ?_
              rw [up_comm (show (100 : Int) ≠ 111 by decide)]
              obtain ⟨u3, hu3⟩ : ∃ x, x = up u2 111 (0 + 1 + 1) (fg (mT w t) z (p + 3) 0 (fg (mT w t) z (p + 1) 3 5 - 1)) := ⟨_, rfl⟩
              rw [← hu3]
              have hT3 : Stc u3 := by rw [hu3]; exact hT2.putA (by decide)
              have hX3 : Tx u3 t z := by rw [hu3]; exact (hX2.put (by decide) (by decide)).1
              have hm3 : mT u3 t = mT w t := by rw [hu3, (hX2.put (by decide) (by decide)).2, hm2]
              have hS3 : SameF w u3 [111] [] := by rw [hu3]; exact hS2.put (Or.inl (by decide))
              have hT := hT3.putF (r := 100) (i := 17) (x := p + 4) (by decide)
              have r3_2 : u3 111 (0 + 1 + 1) = (fg (mT w t) z (p + 3) 0 (fg (mT w t) z (p + 1) 3 5 - 1)) := by rw [hu3, up_eq]
              have r3_0 : u3 111 0 = fg (mT w t) z (p + 1) 3 5 := by rw [hu3, up_at (by decide)]; exact r2_0
              have r3_1 : u3 111 (0 + 1) = fg (mT w t) z (p + 2) 3 5 := by rw [hu3, up_at (by decide)]; exact r2_1
              refine wp_aload_n (pc' := 71) rfl rfl rfl (by decide) ?_
              refine wp_getR (r' := 111) (ci := 10) (k0 := 20) (pc' := 74) rfl rfl (by decide) (by first | assumption | rfl) (hT.get 109 rfl) ?_
              refine wp_iload_n (pc' := 75) rfl rfl rfl ?_
              refine wp_iaload (pc' := 76) rfl rfl (by first | assumption | rfl) (by omega) ?_
              rw [up_ne (show (111 : Int) ≠ 100 by decide), r3_2]
              refine wp_bipush (a := -9) (pc' := 78) rfl rfl rfl ?_
              refine wp_icmp_ne (pc' := 81) (pt := 83) rfl rfl rfl (fun q_13 => ?_) (fun q_13 => ?_)
              · skip
                skip
                refine wp_iinc (pc' := 86) rfl rfl rfl (inc_id (by omega) (by omega)) rfl ?_
                dsimp only [lset, lset2, List.set, List.getElem?_cons_zero, List.getElem?_cons_succ]
                refine wp_goto (pc' := 28) rfl rfl ?_
                refine wp_iload_n (pc' := 29) rfl rfl rfl ?_
                refine wp_iconst (a := 4) (pc' := 30) rfl rfl rfl ?_
                refine wp_icmp_ge (pc' := 33) (pt := 89) rfl rfl rfl (fun q_14 => absurd q_14 (by decide)) (fun q_14 => ?_)
                refine wp_aload_n (pc' := 34) rfl rfl rfl (by decide) ?_
                refine wp_getR (r' := 111) (ci := 10) (k0 := 20) (pc' := 37) rfl rfl (by decide) (by first | assumption | rfl) (hT.get 109 rfl) ?_
                refine wp_iload_n (pc' := 38) rfl rfl rfl ?_
                refine wp_iload_n (pc' := 39) rfl rfl rfl ?_
                refine wp_iconst (a := 2) (pc' := 40) rfl rfl rfl ?_
                refine wp_icmp_ge (pc' := 43) (pt := 53) rfl rfl rfl (fun q_15 => ?_) (fun q_15 => absurd (by decide) q_15)
                refine wp_aload_n (pc' := 54) rfl rfl rfl (by decide) ?_
                refine wp_iload_n (pc' := 55) rfl rfl rfl ?_
                refine wp_iconst (a := 0) (pc' := 56) rfl rfl rfl ?_
                refine wp_aload_n (pc' := 57) rfl rfl rfl (by decide) ?_
                refine wp_getR (r' := 111) (ci := 10) (k0 := 20) (pc' := 60) rfl rfl (by decide) (by first | assumption | rfl) (hT.get 109 rfl) ?_
                refine wp_iload_n (pc' := 61) rfl rfl rfl ?_
                refine wp_iconst (a := 2) (pc' := 62) rfl rfl rfl ?_
                refine wp_isub (pc' := 63) rfl rfl (by first | exact w32_id (by omega) (by omega) | rfl) ?_
                refine wp_iaload (pc' := 64) rfl rfl (by first | assumption | rfl) (by omega) ?_
                rw [up_ne (show (111 : Int) ≠ 100 by decide), show ((0 + 1 + 1 + 1) - 2 : Int) = (0 + 1) from rfl, r3_1]
                refine wp_iconst (a := 1) (pc' := 65) rfl rfl rfl ?_
                refine wp_isub (pc' := 66) rfl rfl (by first | exact w32_id (by omega) (by omega) | rfl) ?_
                refine wp_call (pc' := 69) rfl rfl rfl rfl rfl ⟨Nat.le_of_ble_eq_true rfl, Nat.le_of_ble_eq_true rfl, Nat.le_of_ble_eq_true rfl, Nat.le_of_ble_eq_true rfl, Nat.le_of_ble_eq_true rfl⟩ rfl (c_Mod_figure (w := u3) (P := p + 4) (lo := 0) (hi := fg (mT w t) z (p + 2) 3 5 - 1) hT3 hX3 (by omega) (by decide)) ?_
                rintro v1 w9 ⟨hv1, hw9⟩
                rw [hm3] at hv1 hw9
                rcases Classical.em (fg (mT w t) z (p + 4) 0 (fg (mT w t) z (p + 2) 3 5 - 1) = -1) with hf4 | hf4
                · skip
                  rw [if_pos hf4] at hw9 hv1
                  rw [hv1, hw9]
                  clear hv1 hw9 v1 w9
                  dsimp only [Option.toList, List.cons_append, List.nil_append, List.append_nil]
                  refine wp_iastore (pc' := 70) rfl rfl (by first | assumption | rfl) (by omega) ?_
                  rw [up_comm (show (100 : Int) ≠ 111 by decide)]
                  obtain ⟨u4, hu4⟩ : ∃ x, x = up u3 111 (0 + 1 + 1 + 1) (-9) := ⟨_, rfl⟩
                  rw [← hu4]
                  have hT4 : Stc u4 := by rw [hu4]; exact hT3.putA (by decide)
                  have hX4 : Tx u4 t z := by rw [hu4]; exact (hX3.put (by decide) (by decide)).1
                  have hm4 : mT u4 t = mT w t := by rw [hu4, (hX3.put (by decide) (by decide)).2, hm3]
                  have hS4 : SameF w u4 [111] [] := by rw [hu4]; exact hS3.put (Or.inl (by decide))
                  have hT := hT4.putF (r := 100) (i := 17) (x := p + 4) (by decide)
                  have r4_3 : u4 111 (0 + 1 + 1 + 1) = (-9) := by rw [hu4, up_eq]
                  have r4_0 : u4 111 0 = fg (mT w t) z (p + 1) 3 5 := by rw [hu4, up_at (by decide)]; exact r3_0
                  have r4_1 : u4 111 (0 + 1) = fg (mT w t) z (p + 2) 3 5 := by rw [hu4, up_at (by decide)]; exact r3_1
                  have r4_2 : u4 111 (0 + 1 + 1) = fg (mT w t) z (p + 3) 0 (fg (mT w t) z (p + 1) 3 5 - 1) := by rw [hu4, up_at (by decide)]; exact r3_2
                  refine wp_aload_n (pc' := 71) rfl rfl rfl (by decide) ?_
                  refine wp_getR (r' := 111) (ci := 10) (k0 := 20) (pc' := 74) rfl rfl (by decide) (by first | assumption | rfl) (hT.get 109 rfl) ?_
                  refine wp_iload_n (pc' := 75) rfl rfl rfl ?_
                  refine wp_iaload (pc' := 76) rfl rfl (by first | assumption | rfl) (by omega) ?_
                  rw [up_ne (show (111 : Int) ≠ 100 by decide), r4_3]
                  refine wp_bipush (a := -9) (pc' := 78) rfl rfl rfl ?_
                  refine wp_icmp_ne (pc' := 81) (pt := 83) rfl rfl rfl (fun q_16 => ?_) (fun q_16 => ?_)
                  · skip
                    exfalso; omega
                  · skip
                    refine wp_iconst (a := 0) (pc' := 82) rfl rfl rfl ?_
                    refine wp_ret rfl rfl rfl ?_
                    have hh : hE (mT w t) z p = p + 4 := by
                      unfold hE
                      rw [if_neg (by omega), if_neg hf1, if_neg hf2, if_neg hf3, if_pos hf4]
                    exact Or.inl ⟨rfl, by omega, (hS4.mono (fun r hr => hr) (fun x hx => absurd hx (by simp))).put (Or.inr (by decide)), by rw [up_eq, hh]⟩
                · skip
                  rw [if_neg hf4] at hw9 hv1
                  rw [hv1, hw9]
                  clear hv1 hw9 v1 w9
                  rw [show (p + 4 : Int) + 1 = p + 5 by omega]
                  have hfl4 := fg_lt (by omega) hf4
                  dsimp only [Option.toList, List.cons_append, List.nil_append, List.append_nil]
                  refine wp_iastore (pc' := 70) rfl rfl (by first | assumption | rfl) (by omega) ?_
                  rw [up_comm (show (100 : Int) ≠ 111 by decide)]
                  obtain ⟨u4, hu4⟩ : ∃ x, x = up u3 111 (0 + 1 + 1 + 1) (fg (mT w t) z (p + 4) 0 (fg (mT w t) z (p + 2) 3 5 - 1)) := ⟨_, rfl⟩
                  rw [← hu4]
                  have hT4 : Stc u4 := by rw [hu4]; exact hT3.putA (by decide)
                  have hX4 : Tx u4 t z := by rw [hu4]; exact (hX3.put (by decide) (by decide)).1
                  have hm4 : mT u4 t = mT w t := by rw [hu4, (hX3.put (by decide) (by decide)).2, hm3]
                  have hS4 : SameF w u4 [111] [] := by rw [hu4]; exact hS3.put (Or.inl (by decide))
                  have hT := hT4.putF (r := 100) (i := 17) (x := p + 5) (by decide)
                  have r4_3 : u4 111 (0 + 1 + 1 + 1) = (fg (mT w t) z (p + 4) 0 (fg (mT w t) z (p + 2) 3 5 - 1)) := by rw [hu4, up_eq]
                  have r4_0 : u4 111 0 = fg (mT w t) z (p + 1) 3 5 := by rw [hu4, up_at (by decide)]; exact r3_0
                  have r4_1 : u4 111 (0 + 1) = fg (mT w t) z (p + 2) 3 5 := by rw [hu4, up_at (by decide)]; exact r3_1
                  have r4_2 : u4 111 (0 + 1 + 1) = fg (mT w t) z (p + 3) 0 (fg (mT w t) z (p + 1) 3 5 - 1) := by rw [hu4, up_at (by decide)]; exact r3_2
                  refine wp_aload_n (pc' := 71) rfl rfl rfl (by decide) ?_
                  refine wp_getR (r' := 111) (ci := 10) (k0 := 20) (pc' := 74) rfl rfl (by decide) (by first | assumption | rfl) (hT.get 109 rfl) ?_
                  refine wp_iload_n (pc' := 75) rfl rfl rfl ?_
                  refine wp_iaload (pc' := 76) rfl rfl (by first | assumption | rfl) (by omega) ?_
                  rw [up_ne (show (111 : Int) ≠ 100 by decide), r4_3]
                  refine wp_bipush (a := -9) (pc' := 78) rfl rfl rfl ?_
                  refine wp_icmp_ne (pc' := 81) (pt := 83) rfl rfl rfl (fun q_17 => ?_) (fun q_17 => ?_)
                  · skip
                    skip
                    refine wp_iinc (pc' := 86) rfl rfl rfl (inc_id (by omega) (by omega)) rfl ?_
                    dsimp only [lset, lset2, List.set, List.getElem?_cons_zero, List.getElem?_cons_succ]
                    refine wp_goto (pc' := 28) rfl rfl ?_
                    refine wp_iload_n (pc' := 29) rfl rfl rfl ?_
                    refine wp_iconst (a := 4) (pc' := 30) rfl rfl rfl ?_
                    refine wp_icmp_ge (pc' := 33) (pt := 89) rfl rfl rfl (fun q_18 => ?_) (fun q_18 => absurd (by decide) q_18)
                    refine wp_aload_n (pc' := 90) rfl rfl rfl (by decide) ?_
                    refine wp_iconst (a := 1) (pc' := 91) rfl rfl rfl ?_
                    refine wp_putZ (ci := 10) (k0 := 19) (pc' := 94) rfl rfl (by decide) (by omega) (by first | assumption | rfl) ?_
                    refine wp_iconst (a := 1) (pc' := 95) rfl rfl rfl ?_
                    refine wp_ret rfl rfl rfl ?_
                    have hh : hE (mT w t) z p = p + 5 := by
                      unfold hE
                      rw [if_neg (by omega), if_neg hf1, if_neg hf2, if_neg hf3, if_neg hf4]
                    refine Or.inr ⟨rfl, hh, by omega, hfl1.2, hfl2.2, hfl3.2, hfl4.2, ((hS4.mono (fun r hr => hr) (fun x hx => absurd hx (by simp))).put (Or.inr (by decide))).put (Or.inr (by decide)), by rw [up_at (by decide), up_eq], by rw [up_eq], ?_, ?_, ?_, ?_⟩
                    · rw [up_ne (by decide), up_ne (by decide)]; exact r4_0
                    · rw [up_ne (by decide), up_ne (by decide)]; exact r4_1
                    · rw [up_ne (by decide), up_ne (by decide)]; exact r4_2
                    · rw [up_ne (by decide), up_ne (by decide)]; exact r4_3
                  · skip
                    refine wp_iconst (a := 0) (pc' := 82) rfl rfl rfl ?_
                    refine wp_ret rfl rfl rfl ?_
                    exfalso; omega
              · skip
                refine wp_iconst (a := 0) (pc' := 82) rfl rfl rfl ?_
                refine wp_ret rfl rfl rfl ?_
                exfalso; omega
          · skip
            refine wp_iconst (a := 0) (pc' := 82) rfl rfl rfl ?_
            refine wp_ret rfl rfl rfl ?_
            exfalso; omega
      · skip
        refine wp_iconst (a := 0) (pc' := 82) rfl rfl rfl ?_
        refine wp_ret rfl rfl rfl ?_
        exfalso; omega
  · skip
    refine wp_iconst (a := 0) (pc' := 15) rfl rfl rfl ?_
    refine wp_ret rfl rfl rfl ?_
    first
    | (exfalso; omega)
    | (have hh : hE (mT w t) z p = p := by unfold hE; rw [if_pos (by omega)]
       exact Or.inl ⟨rfl, by omega, (SameF.rf _ _ _).put (Or.inr (by decide)), by rw [up_eq, hh]⟩)
