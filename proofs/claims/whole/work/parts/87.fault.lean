/-! faultOf -/
def MM (w : Hp) (D : Int → Int × Int × Int × Int) (n : Int) : Prop := ∀ j : Int, 0 ≤ j → j < n → w 112 (4 * j) = (D j).1 ∧ w 112 (4 * j + 1) = (D j).2.1 ∧ w 112 (4 * j + 2) = (D j).2.2.1 ∧ w 112 (4 * j + 3) = (D j).2.2.2
def FF3 : List (Int × Int) := [(100, 17), (100, 18), (100, 19)]
theorem Tx.same {w w1 : Hp} {t z : Int} {L : List Int} {F : List (Int × Int)} (h : Tx w t z) (hs : SameF w w1 L F) (h5 : (105 : Int) ∉ L ∧ (106 : Int) ∉ L) (hf : ∀ q ∈ F, q.1 ≠ 105 ∧ q.1 ≠ 106) : Tx w1 t z ∧ mT w1 t = mT w t := by
  have e5 : w1 105 = w 105 := hs.cell 105 h5.1 (fun q hq => (hf q hq).1)
  have e6 : w1 106 = w 106 := hs.cell 106 h5.2 (fun q hq => (hf q hq).2)
  have hm : mT w1 t = mT w t := by unfold mT; rw [e6]
  obtain ⟨a, b, c, e⟩ := h
  exact ⟨⟨a, by rw [e5]; exact b, c, by rw [hm]; exact e⟩, hm⟩
set_option maxRecDepth 20000 in
set_option maxHeartbeats 4000000 in
theorem l_ones {w : Hp} {d : Nat} {t z c l : Int} (hT0 : Stc w) (hX : Tx w t z) (hc : 3 ≤ c ∧ c ≤ 5) (hl : 3 ≤ l ∧ l ≤ 5) : ∀ (k : Nat) (p n : Int) (D : Int → Int × Int × Int × Int) (g : Int → Int) (w1 : Hp), z - p ≤ k → 0 ≤ p → p ≤ z → (0 ≤ n ∧ n ≤ 6) → SameF w w1 [111, 112] FF3 → w1 100 17 = p → w1 100 18 = n → w1 100 19 = 1 → w1 111 0 = c → w1 111 1 = l → MM w1 D n → w1 111 = g → WP SH (d + 3) 164 15 [some (vR 100), some (vI t)] [] w1 (fun v w' => v = some (vI (RR (mT w t) z c l p n D).1) ∧ SameF w w' [111, 112] FF3 ∧ w' 100 18 = (RR (mT w t) z c l p n D).2.1 ∧ MM w' (RR (mT w t) z c l p n D).2.2 (RR (mT w t) z c l p n D).2.1 ∧ w' 111 = g) := by
  intro k
  induction k with
  | zero =>
    intro p n D g w1 hk hp0 hpz hn hS h17 h18 h19 h0 h1 hM hg
    have hT := hT0.sameF hS (by decide)
    have hX1 := hX.same hS (by decide) (by decide)
    have hz60 := hX.2.2.1
    have ht4 := hX.1
    have h105 : w1 105 t = z := hX1.1.2.1
    have hid : up w1 100 17 p = w1 := by rw [← h17]; exact up_id w1 100 17
    refine wp_aload_n (pc' := 16) rfl rfl rfl (by decide) ?_
    refine wp_getI (ci := 10) (k0 := 17) (pc' := 19) rfl rfl (by decide) (by first | assumption | rfl) ?_
    refine wp_aload_n (pc' := 20) rfl rfl rfl (by decide) ?_
    refine wp_getR (r' := 105) (ci := 10) (k0 := 8) (pc' := 23) rfl rfl (by decide) (by first | assumption | rfl) (hT.get 103 rfl) ?_
    refine wp_iload_n (pc' := 24) rfl rfl rfl ?_
    refine wp_iaload (pc' := 25) rfl rfl (by first | assumption | rfl) (by omega) ?_
    refine wp_icmp_ge (pc' := 28) (pt := 86) rfl rfl rfl (fun q_1 => ?_) (fun q_1 => ?_)
    · skip
      refine wp_aload_n (pc' := 87) rfl rfl rfl (by decide) ?_
      refine wp_getI (ci := 10) (k0 := 18) (pc' := 90) rfl rfl (by decide) (by first | assumption | rfl) ?_
      refine wp_if_ne (pc' := 93) (pt := 102) rfl rfl rfl (fun q_2 => ?_) (fun q_2 => ?_)
      · skip
        refine wp_bipush (a := -9) (pc' := 104) rfl rfl rfl ?_
        refine wp_ret rfl rfl rfl ?_
        first
        | (exfalso; omega)
        | (have hRR : RR (mT w t) z c l p n D = (endR z n, n, D) := RR_end (by omega)
           rw [hRR]
           exact ⟨by unfold endR; first | rw [if_pos (by omega), h105] | rw [if_neg (by omega)], hS, h18, hM, hg⟩)
      · skip
        refine wp_aload_n (pc' := 94) rfl rfl rfl (by decide) ?_
        refine wp_getR (r' := 105) (ci := 10) (k0 := 8) (pc' := 97) rfl rfl (by decide) (by first | assumption | rfl) (hT.get 103 rfl) ?_
        refine wp_iload_n (pc' := 98) rfl rfl rfl ?_
        refine wp_iaload (pc' := 99) rfl rfl (by first | assumption | rfl) (by omega) ?_
        refine wp_goto (pc' := 104) rfl rfl ?_
        refine wp_ret rfl rfl rfl ?_
        first
        | (exfalso; omega)
        | (have hRR : RR (mT w t) z c l p n D = (endR z n, n, D) := RR_end (by omega)
           rw [hRR]
           exact ⟨by unfold endR; first | rw [if_pos (by omega), h105] | rw [if_neg (by omega)], hS, h18, hM, hg⟩)
    · skip
      exfalso; omega
  | succ k ih =>
    intro p n D g w1 hk hp0 hpz hn hS h17 h18 h19 h0 h1 hM hg
    have hT := hT0.sameF hS (by decide)
    have hX1 := hX.same hS (by decide) (by decide)
    have hz60 := hX.2.2.1
    have ht4 := hX.1
    have h105 : w1 105 t = z := hX1.1.2.1
    have hid : up w1 100 17 p = w1 := by rw [← h17]; exact up_id w1 100 17
    refine wp_aload_n (pc' := 16) rfl rfl rfl (by decide) ?_
    refine wp_getI (ci := 10) (k0 := 17) (pc' := 19) rfl rfl (by decide) (by first | assumption | rfl) ?_
    refine wp_aload_n (pc' := 20) rfl rfl rfl (by decide) ?_
    refine wp_getR (r' := 105) (ci := 10) (k0 := 8) (pc' := 23) rfl rfl (by decide) (by first | assumption | rfl) (hT.get 103 rfl) ?_
    refine wp_iload_n (pc' := 24) rfl rfl rfl ?_
    refine wp_iaload (pc' := 25) rfl rfl (by first | assumption | rfl) (by omega) ?_
    refine wp_icmp_ge (pc' := 28) (pt := 86) rfl rfl rfl (fun q_1 => ?_) (fun q_1 => ?_)
    · skip
      refine wp_aload_n (pc' := 87) rfl rfl rfl (by decide) ?_
      refine wp_getI (ci := 10) (k0 := 18) (pc' := 90) rfl rfl (by decide) (by first | assumption | rfl) ?_
      refine wp_if_ne (pc' := 93) (pt := 102) rfl rfl rfl (fun q_2 => ?_) (fun q_2 => ?_)
      · skip
        refine wp_bipush (a := -9) (pc' := 104) rfl rfl rfl ?_
        refine wp_ret rfl rfl rfl ?_
        first
        | (exfalso; omega)
        | (have hRR : RR (mT w t) z c l p n D = (endR z n, n, D) := RR_end (by omega)
           rw [hRR]
           exact ⟨by unfold endR; first | rw [if_pos (by omega), h105] | rw [if_neg (by omega)], hS, h18, hM, hg⟩)
      · skip
        refine wp_aload_n (pc' := 94) rfl rfl rfl (by decide) ?_
        refine wp_getR (r' := 105) (ci := 10) (k0 := 8) (pc' := 97) rfl rfl (by decide) (by first | assumption | rfl) (hT.get 103 rfl) ?_
        refine wp_iload_n (pc' := 98) rfl rfl rfl ?_
        refine wp_iaload (pc' := 99) rfl rfl (by first | assumption | rfl) (by omega) ?_
        refine wp_goto (pc' := 104) rfl rfl ?_
        refine wp_ret rfl rfl rfl ?_
        first
        | (exfalso; omega)
        | (have hRR : RR (mT w t) z c l p n D = (endR z n, n, D) := RR_end (by omega)
           rw [hRR]
           exact ⟨by unfold endR; first | rw [if_pos (by omega), h105] | rw [if_neg (by omega)], hS, h18, hM, hg⟩)
    · skip
      refine wp_aload_n (pc' := 29) rfl rfl rfl (by decide) ?_
      refine wp_iload_n (pc' := 30) rfl rfl rfl ?_
      refine wp_aload_n (pc' := 31) rfl rfl rfl (by decide) ?_
      refine wp_getI (ci := 10) (k0 := 17) (pc' := 34) rfl rfl (by decide) (by first | assumption | rfl) ?_
      refine wp_call (pc' := 37) rfl rfl rfl rfl rfl ⟨Nat.le_of_ble_eq_true rfl, Nat.le_of_ble_eq_true rfl, Nat.le_of_ble_eq_true rfl, Nat.le_of_ble_eq_true rfl, Nat.le_of_ble_eq_true rfl⟩ rfl (c_Mod_byteAtG hT hX1.1 (by omega)) ?_
      intro v1 w9 hq1
      rw [hq1.1, hq1.2]
      clear hq1 v1 w9
      rw [hX1.2, h17]
      dsimp only [Option.toList, List.cons_append, List.nil_append, List.append_nil]
      refine wp_bipush (a := 32) (pc' := 39) rfl rfl rfl ?_
      refine wp_icmp_ne (pc' := 42) (pt := 55) rfl rfl rfl (fun q_3 => ?_) (fun q_3 => ?_)
      · skip
        refine wp_aload_n (pc' := 56) rfl rfl rfl (by decide) ?_
        refine wp_getI (ci := 10) (k0 := 19) (pc' := 59) rfl rfl (by decide) (by first | assumption | rfl) ?_
        refine wp_if_eq (pc' := 62) (pt := 73) rfl rfl rfl (fun q_4 => ?_) (fun q_4 => ?_)
        · skip
          exfalso; omega
        · skip
          rw [← hid]
          refine wp_aload_n (pc' := 63) rfl rfl rfl (by decide) ?_
          refine wp_iload_n (pc' := 64) rfl rfl rfl ?_
          refine wp_call (pc' := 67) rfl rfl rfl rfl rfl ⟨Nat.le_of_ble_eq_true rfl, Nat.le_of_ble_eq_true rfl, Nat.le_of_ble_eq_true rfl, Nat.le_of_ble_eq_true rfl, Nat.le_of_ble_eq_true rfl⟩ rfl (c_Mod_readsOne hT hX1.1 ⟨hp0, hpz⟩ (by omega) (by omega) (by omega)) ?_
          rintro v1 w2 (⟨hv1, hcn, hS2, h17', hl2⟩ | ⟨hv1, hcn, hlt, hS2, h17', hl2⟩ | ⟨hv1, hcn, heq, hle, hS2, h17', h18', hl2, q0, q1, q2, q3⟩)
          · skip
            rw [hv1]
            clear hv1 v1
            dsimp only [Option.toList, List.cons_append, List.nil_append, List.append_nil]
            refine wp_if_eq (pc' := 70) (pt := 81) rfl rfl rfl (fun q_5 => ?_) (fun q_5 => absurd (by decide) q_5)
            refine wp_aload_n (pc' := 82) rfl rfl rfl (by decide) ?_
            refine wp_getI (ci := 10) (k0 := 17) (pc' := 85) rfl rfl (by decide) (by first | assumption | rfl) ?_
            refine wp_ret rfl rfl rfl ?_
            have hRR : RR (mT w t) z c l p n D = (p, n, D) := by
              rw [RR_at hp0 hz60.2 (by omega), if_neg (by omega), if_pos (by rw [hX1.2, h18] at hcn; exact hcn)]
            rw [hRR]
            refine ⟨by rw [h17'], hS.tr (hS2.mono (fun r hr => by simp at hr ⊢; omega) (fun q hq => Or.inl (by simp at hq; rw [hq]; decide))), by rw [hS2 100 18 (by decide) (by decide)]; exact h18, fun j j0 j1 => ?_, (hS2.cell 111 (by decide) (by decide)).trans hg⟩
            rw [h18] at hl2
            have j2 : j < n := j1
            rw [hl2 _ (by omega), hl2 _ (by omega), hl2 _ (by omega), hl2 _ (by omega)]
            exact hM j j0 j1
          · skip
            rw [hv1]
            clear hv1 v1
            dsimp only [Option.toList, List.cons_append, List.nil_append, List.append_nil]
            refine wp_if_eq (pc' := 70) (pt := 81) rfl rfl rfl (fun q_6 => ?_) (fun q_6 => absurd (by decide) q_6)
            refine wp_aload_n (pc' := 82) rfl rfl rfl (by decide) ?_
            refine wp_getI (ci := 10) (k0 := 17) (pc' := 85) rfl rfl (by decide) (by first | assumption | rfl) ?_
            refine wp_ret rfl rfl rfl ?_
            rw [hX1.2, h0, h1] at hlt h17'
            have hRR : RR (mT w t) z c l p n D = (oE (mT w t) z c l p, n, D) := by
              rw [RR_at hp0 hz60.2 (by omega), if_neg (by omega), if_neg (by rw [hX1.2, h18] at hcn; exact hcn), if_pos hlt]
            rw [hRR]
            refine ⟨by rw [h17'], hS.tr (hS2.mono (fun r hr => by simp at hr ⊢; omega) (fun q hq => Or.inl (by simp at hq; rw [hq]; decide))), by rw [hS2 100 18 (by decide) (by decide)]; exact h18, fun j j0 j1 => ?_, (hS2.cell 111 (by decide) (by decide)).trans hg⟩
            rw [h18] at hl2
            have j2 : j < n := j1
            rw [hl2 _ (by omega), hl2 _ (by omega), hl2 _ (by omega), hl2 _ (by omega)]
            exact hM j j0 j1
          · skip
            rw [hv1]
            clear hv1 v1
            dsimp only [Option.toList, List.cons_append, List.nil_append, List.append_nil]
            refine wp_if_eq (pc' := 70) (pt := 81) rfl rfl rfl (fun q_7 => absurd q_7 (by decide)) (fun q_7 => ?_)
            refine wp_goto (pc' := 15) rfl rfl ?_
            rw [hX1.2, h18] at hcn
            rw [hX1.2, h0, h1] at heq
            rw [h18] at h18' hl2 q0 q1 q2 q3
            rw [hX1.2] at q0 q1 q2 q3
            rw [h0] at q1
            rw [h1] at q2
            have hn6 : n ≠ 6 := fun h => hcn (Or.inr h)
            obtain ⟨D2, hD2⟩ : ∃ D2 : Int → Int × Int × Int × Int, D2 = fun j => if j = n then (kd (bA (mT w t) z p), fg (mT w t) z (p + 1) 0 (c - 1), fg (mT w t) z (p + 2) 0 (l - 1), fg (mT w t) z (p + 3) 1 9) else D j := ⟨_, rfl⟩
            have hRR : RR (mT w t) z c l p n D = RR (mT w t) z c l (p + 4) (n + 1) D2 := by
              rw [RR_at hp0 hz60.2 (by omega), if_neg (by omega), if_neg hcn, if_neg (by omega), hD2]
            have e111 : w2 111 = w1 111 := hS2.cell 111 (by decide) (by decide)
            rw [hRR]
            refine ih (p + 4) (n + 1) D2 g w2 (by omega) (by omega) (by omega) (by omega) (hS.tr (hS2.mono (fun r hr => by simp at hr ⊢; omega) (fun q hq => Or.inl (by simp at hq; rcases hq with rfl | rfl <;> decide)))) h17' h18' (by rw [hS2 100 19 (by decide) (by decide)]; exact h19) (by rw [e111]; exact h0) (by rw [e111]; exact h1) (fun j j0 j1 => ?_) (e111.trans hg)
            by_cases hj : j = n
            · have hd : D2 j = (kd (bA (mT w t) z p), fg (mT w t) z (p + 1) 0 (c - 1), fg (mT w t) z (p + 2) 0 (l - 1), fg (mT w t) z (p + 3) 1 9) := by rw [hD2]; exact if_pos hj
              rw [hd, hj]
              exact ⟨q0, q1, q2, q3⟩
            · have hd : D2 j = D j := by rw [hD2]; exact if_neg hj
              rw [hd, hl2 _ (by omega), hl2 _ (by omega), hl2 _ (by omega), hl2 _ (by omega)]
              exact hM j j0 (by omega)
      · skip
        refine wp_aload_n (pc' := 43) rfl rfl rfl (by decide) ?_
        refine wp_dupR (pc' := 44) rfl rfl ?_
        refine wp_getI (ci := 10) (k0 := 17) (pc' := 47) rfl rfl (by decide) (by first | assumption | rfl) ?_
        refine wp_iconst (a := 1) (pc' := 48) rfl rfl rfl ?_
        refine wp_iadd (pc' := 49) rfl rfl (by first | exact w32_id (by omega) (by omega) | rfl) ?_
        refine wp_putI (ci := 10) (k0 := 17) (pc' := 52) rfl rfl (by decide) (by first | assumption | rfl) ?_
        refine wp_goto (pc' := 15) rfl rfl ?_
        rw [h17]
        have hRR : RR (mT w t) z c l p n D = RR (mT w t) z c l (p + 1) n D := by
          rw [RR_at hp0 hz60.2 (by omega), if_pos (by omega)]
        rw [hRR]
        exact ih (p + 1) n D g _ (by omega) (by omega) (by omega) hn (hS.put (Or.inr (by decide))) (up_eq _ _ _ _) (by rw [up_at (by decide)]; exact h18) (by rw [up_at (by decide)]; exact h19) (by rw [up_ne (by decide)]; exact h0) (by rw [up_ne (by decide)]; exact h1) (fun j j0 j1 => by rw [up_ne (by decide)]; exact hM j j0 j1) (by rw [up_ne (by decide)]; exact hg)
set_option maxRecDepth 20000 in
set_option maxHeartbeats 4000000 in
theorem l_fault {w : Hp} {d : Nat} {t z : Int} (hT0 : Stc w) (hX : Tx w t z) : ∀ (k : Nat) (p : Int) (w1 : Hp), z - p ≤ k → 0 ≤ p → p ≤ z → SameF w w1 [111, 112] FF3 → w1 100 17 = p → w1 100 18 = 0 → w1 100 19 = 0 → (∀ i : Int, 0 ≤ i → i < p → mT w t i = 32) → WP SH (d + 3) 164 15 [some (vR 100), some (vI t)] [] w1 (fun v w' => ∃ q : Int, SkP (mT w t) z 0 q ∧ SameF w w' [111, 112] FF3 ∧ ((v = some (vI (hE (mT w t) z q)) ∧ hE (mT w t) z q < q + 5) ∨ (v = some (vI (RR (mT w t) z (fg (mT w t) z (q + 1) 3 5) (fg (mT w t) z (q + 2) 3 5) (q + 5) 0 D0).1) ∧ hE (mT w t) z q = q + 5 ∧ w' 111 0 = fg (mT w t) z (q + 1) 3 5 ∧ w' 111 1 = fg (mT w t) z (q + 2) 3 5 ∧ w' 111 2 = fg (mT w t) z (q + 3) 0 (fg (mT w t) z (q + 1) 3 5 - 1) ∧ w' 111 3 = fg (mT w t) z (q + 4) 0 (fg (mT w t) z (q + 2) 3 5 - 1) ∧ w' 100 18 = (RR (mT w t) z (fg (mT w t) z (q + 1) 3 5) (fg (mT w t) z (q + 2) 3 5) (q + 5) 0 D0).2.1 ∧ MM w' (RR (mT w t) z (fg (mT w t) z (q + 1) 3 5) (fg (mT w t) z (q + 2) 3 5) (q + 5) 0 D0).2.2 (RR (mT w t) z (fg (mT w t) z (q + 1) 3 5) (fg (mT w t) z (q + 2) 3 5) (q + 5) 0 D0).2.1))) := by
  intro k
  induction k with
  | zero =>
    intro p w1 hk hp0 hpz hS h17 h18 h19 hbl
    have hT := hT0.sameF hS (by decide)
    have hX1 := hX.same hS (by decide) (by decide)
    have hz60 := hX.2.2.1
    have ht4 := hX.1
    have h105 : w1 105 t = z := hX1.1.2.1
    have hid : up w1 100 17 p = w1 := by rw [← h17]; exact up_id w1 100 17
    have hbA : p < z → bA (mT w t) z p = mT w t p := fun h => if_pos h
    refine wp_aload_n (pc' := 16) rfl rfl rfl (by decide) ?_
    refine wp_getI (ci := 10) (k0 := 17) (pc' := 19) rfl rfl (by decide) (by first | assumption | rfl) ?_
    refine wp_aload_n (pc' := 20) rfl rfl rfl (by decide) ?_
    refine wp_getR (r' := 105) (ci := 10) (k0 := 8) (pc' := 23) rfl rfl (by decide) (by first | assumption | rfl) (hT.get 103 rfl) ?_
    refine wp_iload_n (pc' := 24) rfl rfl rfl ?_
    refine wp_iaload (pc' := 25) rfl rfl (by first | assumption | rfl) (by omega) ?_
    refine wp_icmp_ge (pc' := 28) (pt := 86) rfl rfl rfl (fun q_1 => ?_) (fun q_1 => ?_)
    · skip
      refine wp_aload_n (pc' := 87) rfl rfl rfl (by decide) ?_
      refine wp_getI (ci := 10) (k0 := 18) (pc' := 90) rfl rfl (by decide) (by first | assumption | rfl) ?_
      refine wp_if_ne (pc' := 93) (pt := 102) rfl rfl rfl (fun q_2 => ?_) (fun q_2 => ?_)
      · skip
        refine wp_bipush (a := -9) (pc' := 104) rfl rfl rfl ?_
        refine wp_ret rfl rfl rfl ?_
        first
        | (exfalso; omega)
        | (have hpe : p = z := by omega
           have hh : hE (mT w t) z z = z := by
             have hbz : bA (mT w t) z z = 0 := if_neg (by omega)
             unfold hE
             rw [hbz, if_pos (by decide)]
           exact ⟨z, ⟨by omega, by omega, by rw [hpe] at hbl; exact hbl, Or.inl rfl⟩, hS, Or.inl ⟨by rw [hh, h105], by omega⟩⟩)
      · skip
        refine wp_aload_n (pc' := 94) rfl rfl rfl (by decide) ?_
        refine wp_getR (r' := 105) (ci := 10) (k0 := 8) (pc' := 97) rfl rfl (by decide) (by first | assumption | rfl) (hT.get 103 rfl) ?_
        refine wp_iload_n (pc' := 98) rfl rfl rfl ?_
        refine wp_iaload (pc' := 99) rfl rfl (by first | assumption | rfl) (by omega) ?_
        refine wp_goto (pc' := 104) rfl rfl ?_
        refine wp_ret rfl rfl rfl ?_
        first
        | (exfalso; omega)
        | (have hpe : p = z := by omega
           have hh : hE (mT w t) z z = z := by
             have hbz : bA (mT w t) z z = 0 := if_neg (by omega)
             unfold hE
             rw [hbz, if_pos (by decide)]
           exact ⟨z, ⟨by omega, by omega, by rw [hpe] at hbl; exact hbl, Or.inl rfl⟩, hS, Or.inl ⟨by rw [hh, h105], by omega⟩⟩)
    · skip
      exfalso; omega
  | succ k ih =>
    intro p w1 hk hp0 hpz hS h17 h18 h19 hbl
    have hT := hT0.sameF hS (by decide)
    have hX1 := hX.same hS (by decide) (by decide)
    have hz60 := hX.2.2.1
    have ht4 := hX.1
    have h105 : w1 105 t = z := hX1.1.2.1
    have hid : up w1 100 17 p = w1 := by rw [← h17]; exact up_id w1 100 17
    have hbA : p < z → bA (mT w t) z p = mT w t p := fun h => if_pos h
    refine wp_aload_n (pc' := 16) rfl rfl rfl (by decide) ?_
    refine wp_getI (ci := 10) (k0 := 17) (pc' := 19) rfl rfl (by decide) (by first | assumption | rfl) ?_
    refine wp_aload_n (pc' := 20) rfl rfl rfl (by decide) ?_
    refine wp_getR (r' := 105) (ci := 10) (k0 := 8) (pc' := 23) rfl rfl (by decide) (by first | assumption | rfl) (hT.get 103 rfl) ?_
    refine wp_iload_n (pc' := 24) rfl rfl rfl ?_
    refine wp_iaload (pc' := 25) rfl rfl (by first | assumption | rfl) (by omega) ?_
    refine wp_icmp_ge (pc' := 28) (pt := 86) rfl rfl rfl (fun q_1 => ?_) (fun q_1 => ?_)
    · skip
      refine wp_aload_n (pc' := 87) rfl rfl rfl (by decide) ?_
      refine wp_getI (ci := 10) (k0 := 18) (pc' := 90) rfl rfl (by decide) (by first | assumption | rfl) ?_
      refine wp_if_ne (pc' := 93) (pt := 102) rfl rfl rfl (fun q_2 => ?_) (fun q_2 => ?_)
      · skip
        refine wp_bipush (a := -9) (pc' := 104) rfl rfl rfl ?_
        refine wp_ret rfl rfl rfl ?_
        first
        | (exfalso; omega)
        | (have hpe : p = z := by omega
           have hh : hE (mT w t) z z = z := by
             have hbz : bA (mT w t) z z = 0 := if_neg (by omega)
             unfold hE
             rw [hbz, if_pos (by decide)]
           exact ⟨z, ⟨by omega, by omega, by rw [hpe] at hbl; exact hbl, Or.inl rfl⟩, hS, Or.inl ⟨by rw [hh, h105], by omega⟩⟩)
      · skip
        refine wp_aload_n (pc' := 94) rfl rfl rfl (by decide) ?_
        refine wp_getR (r' := 105) (ci := 10) (k0 := 8) (pc' := 97) rfl rfl (by decide) (by first | assumption | rfl) (hT.get 103 rfl) ?_
        refine wp_iload_n (pc' := 98) rfl rfl rfl ?_
        refine wp_iaload (pc' := 99) rfl rfl (by first | assumption | rfl) (by omega) ?_
        refine wp_goto (pc' := 104) rfl rfl ?_
        refine wp_ret rfl rfl rfl ?_
        first
        | (exfalso; omega)
        | (have hpe : p = z := by omega
           have hh : hE (mT w t) z z = z := by
             have hbz : bA (mT w t) z z = 0 := if_neg (by omega)
             unfold hE
             rw [hbz, if_pos (by decide)]
           exact ⟨z, ⟨by omega, by omega, by rw [hpe] at hbl; exact hbl, Or.inl rfl⟩, hS, Or.inl ⟨by rw [hh, h105], by omega⟩⟩)
    · skip
      refine wp_aload_n (pc' := 29) rfl rfl rfl (by decide) ?_
      refine wp_iload_n (pc' := 30) rfl rfl rfl ?_
      refine wp_aload_n (pc' := 31) rfl rfl rfl (by decide) ?_
      refine wp_getI (ci := 10) (k0 := 17) (pc' := 34) rfl rfl (by decide) (by first | assumption | rfl) ?_
      refine wp_call (pc' := 37) rfl rfl rfl rfl rfl ⟨Nat.le_of_ble_eq_true rfl, Nat.le_of_ble_eq_true rfl, Nat.le_of_ble_eq_true rfl, Nat.le_of_ble_eq_true rfl, Nat.le_of_ble_eq_true rfl⟩ rfl (c_Mod_byteAtG hT hX1.1 (by omega)) ?_
      intro v1 w9 hq1
      rw [hq1.1, hq1.2]
      clear hq1 v1 w9
      rw [hX1.2, h17]
      dsimp only [Option.toList, List.cons_append, List.nil_append, List.append_nil]
      refine wp_bipush (a := 32) (pc' := 39) rfl rfl rfl ?_
      refine wp_icmp_ne (pc' := 42) (pt := 55) rfl rfl rfl (fun q_3 => ?_) (fun q_3 => ?_)
      · skip
        refine wp_aload_n (pc' := 56) rfl rfl rfl (by decide) ?_
        refine wp_getI (ci := 10) (k0 := 19) (pc' := 59) rfl rfl (by decide) (by first | assumption | rfl) ?_
        refine wp_if_eq (pc' := 62) (pt := 73) rfl rfl rfl (fun q_4 => ?_) (fun q_4 => ?_)
        · skip
          rw [← hid]
          refine wp_aload_n (pc' := 74) rfl rfl rfl (by decide) ?_
          refine wp_iload_n (pc' := 75) rfl rfl rfl ?_
          refine wp_call (pc' := 78) rfl rfl rfl rfl rfl ⟨Nat.le_of_ble_eq_true rfl, Nat.le_of_ble_eq_true rfl, Nat.le_of_ble_eq_true rfl, Nat.le_of_ble_eq_true rfl, Nat.le_of_ble_eq_true rfl⟩ rfl (c_Mod_readsHead hT hX1.1 ⟨hp0, hpz⟩) ?_
          rintro v1 w2 (⟨hv1, hlt, hS2, h17'⟩ | ⟨hv1, heq, hle, hb1, hb2, hb3, hb4, hS2, h17', h19', q0, q1, q2, q3⟩)
          · skip
            rw [hv1]
            clear hv1 v1
            rw [hX1.2] at hlt h17'
            dsimp only [Option.toList, List.cons_append, List.nil_append, List.append_nil]
            refine wp_if_ne (pc' := 81) (pt := 15) rfl rfl rfl (fun q_5 => absurd q_5 (by decide)) (fun q_5 => ?_)
            refine wp_aload_n (pc' := 82) rfl rfl rfl (by decide) ?_
            refine wp_getI (ci := 10) (k0 := 17) (pc' := 85) rfl rfl (by decide) (by first | assumption | rfl) ?_
            refine wp_ret rfl rfl rfl ?_
            refine ⟨p, ⟨hp0, hpz, hbl, Or.inr ⟨by omega, by rw [← hbA (by omega)]; omega⟩⟩, hS.tr (hS2.mono (fun r hr => by simp at hr ⊢; omega) (fun q hq => Or.inl (by simp at hq; rw [hq]; decide))), Or.inl ⟨by rw [h17'], hlt⟩⟩
          · skip
            rw [hv1]
            clear hv1 v1
            rw [hX1.2] at heq hb1 hb2 hb3 hb4 q0 q1 q2 q3
            dsimp only [Option.toList, List.cons_append, List.nil_append, List.append_nil]
            refine wp_if_ne (pc' := 81) (pt := 15) rfl rfl rfl (fun q_6 => ?_) (fun q_6 => absurd (by decide) q_6)
            refine (l_ones (w := w) (c := fg (mT w t) z (p + 1) 3 5) (l := fg (mT w t) z (p + 2) 3 5) hT0 hX hb1 hb2 60 (p + 5) 0 D0 (w2 111) w2 (by omega) (by omega) (by omega) (by omega) (hS.tr (hS2.mono (fun r hr => by simp at hr ⊢; omega) (fun q hq => Or.inl (by simp at hq; rcases hq with rfl | rfl <;> decide)))) h17' (by rw [hS2 100 18 (by decide) (by decide)]; exact h18) h19' q0 q1 (fun j a b => absurd b (by omega)) rfl).mono (fun v w' hq => ?_)
            exact ⟨p, ⟨hp0, hpz, hbl, Or.inr ⟨by omega, by rw [← hbA (by omega)]; omega⟩⟩, hq.2.1, Or.inr ⟨hq.1, heq, by rw [hq.2.2.2.2]; exact q0, by rw [hq.2.2.2.2]; exact q1, by rw [hq.2.2.2.2]; exact q2, by rw [hq.2.2.2.2]; exact q3, hq.2.2.1, hq.2.2.2.1⟩⟩
        · skip
          exfalso; omega
      · skip
        refine wp_aload_n (pc' := 43) rfl rfl rfl (by decide) ?_
        refine wp_dupR (pc' := 44) rfl rfl ?_
        refine wp_getI (ci := 10) (k0 := 17) (pc' := 47) rfl rfl (by decide) (by first | assumption | rfl) ?_
        refine wp_iconst (a := 1) (pc' := 48) rfl rfl rfl ?_
        refine wp_iadd (pc' := 49) rfl rfl (by first | exact w32_id (by omega) (by omega) | rfl) ?_
        refine wp_putI (ci := 10) (k0 := 17) (pc' := 52) rfl rfl (by decide) (by first | assumption | rfl) ?_
        refine wp_goto (pc' := 15) rfl rfl ?_
        rw [h17]
        refine ih (p + 1) _ (by omega) (by omega) (by omega) (hS.put (Or.inr (by decide))) (up_eq _ _ _ _) (by rw [up_at (by decide)]; exact h18) (by rw [up_at (by decide)]; exact h19) (fun i i0 i1 => ?_)
        by_cases hi : i = p
        · rw [hi, ← hbA (by omega)]; omega
        · exact hbl i i0 (by omega)
set_option maxRecDepth 20000 in
set_option maxHeartbeats 4000000 in
theorem c_Mod_faultOf {w : Hp} {d : Nat} {t z : Int} (hT : Stc w) (hX : Tx w t z) : WP SH (d + 3) 164 0 [some (vR 100), some (vI t)] [] w (fun v w' => ∃ q : Int, SkP (mT w t) z 0 q ∧ SameF w w' [111, 112] FF3 ∧ ((v = some (vI (hE (mT w t) z q)) ∧ hE (mT w t) z q < q + 5) ∨ (v = some (vI (RR (mT w t) z (fg (mT w t) z (q + 1) 3 5) (fg (mT w t) z (q + 2) 3 5) (q + 5) 0 D0).1) ∧ hE (mT w t) z q = q + 5 ∧ w' 111 0 = fg (mT w t) z (q + 1) 3 5 ∧ w' 111 1 = fg (mT w t) z (q + 2) 3 5 ∧ w' 111 2 = fg (mT w t) z (q + 3) 0 (fg (mT w t) z (q + 1) 3 5 - 1) ∧ w' 111 3 = fg (mT w t) z (q + 4) 0 (fg (mT w t) z (q + 2) 3 5 - 1) ∧ w' 100 18 = (RR (mT w t) z (fg (mT w t) z (q + 1) 3 5) (fg (mT w t) z (q + 2) 3 5) (q + 5) 0 D0).2.1 ∧ MM w' (RR (mT w t) z (fg (mT w t) z (q + 1) 3 5) (fg (mT w t) z (q + 2) 3 5) (q + 5) 0 D0).2.2 (RR (mT w t) z (fg (mT w t) z (q + 1) 3 5) (fg (mT w t) z (q + 2) 3 5) (q + 5) 0 D0).2.1))) := by
  refine wp_aload_n (pc' := 1) rfl rfl rfl (by decide) ?_
  refine wp_iconst (a := 0) (pc' := 2) rfl rfl rfl ?_
  refine wp_putI (ci := 10) (k0 := 17) (pc' := 5) rfl rfl (by decide) (by first | assumption | rfl) ?_
  refine wp_aload_n (pc' := 6) rfl rfl rfl (by decide) ?_
  refine wp_iconst (a := 0) (pc' := 7) rfl rfl rfl ?_
  refine wp_putI (ci := 10) (k0 := 18) (pc' := 10) rfl rfl (by decide) (by first | assumption | rfl) ?_
  refine wp_aload_n (pc' := 11) rfl rfl rfl (by decide) ?_
  refine wp_iconst (a := 0) (pc' := 12) rfl rfl rfl ?_
  refine wp_putZ (ci := 10) (k0 := 19) (pc' := 15) rfl rfl (by decide) (by omega) (by first | assumption | rfl) ?_
  have hz60 := hX.2.2.1
  exact l_fault (w := w) hT hX 60 0 _ (by omega) (by decide) hz60.1 ((((SameF.rf _ _ _).put (Or.inr (by decide))).put (Or.inr (by decide))).put (Or.inr (by decide))) (by rw [up_at (by decide), up_at (by decide), up_eq]) (by rw [up_at (by decide), up_eq]) (up_eq _ _ _ _) (fun i a b => absurd b (by omega))
