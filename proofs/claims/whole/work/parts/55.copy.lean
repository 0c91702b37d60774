/-! copy -/
theorem lCmp_gt (x y : Int) : 0 < lCmp x y ↔ y < x := by
  unfold lCmp
  (repeat' split) <;> omega
theorem copy_end {w w1 w2 w3 : Hp} {r i to j n : Int} (hI : Inv w) (hr : 0 ≤ r ∧ r < 6) (ht : 0 ≤ to ∧ to < 6) (hn : 0 ≤ n) (hi : 0 ≤ i ∧ i + n ≤ w 102 r) (hj : 0 ≤ j ∧ j + n ≤ w 102 to) (h1 : w1 = cpy w (54 + 2 * r) i (54 + 2 * to) j n) (hS2 : Same w1 w2 [104]) (hz2 : ∀ k : Int, 0 ≤ k → k < n → w2 104 k = w1 103 (40 * r + (i + k))) (hS3 : Same w2 w3 [103]) (hz3 : ∀ k : Int, 0 ≤ k → k < n → w3 103 (40 * to + j + k) = w2 104 k) (hy3 : ∀ z : Int, z < 40 * to + j ∨ 40 * to + j + n ≤ z → w3 103 z = w2 103 z) : w3 (-2) = w1 (-2) ∧ Inv w3 := by
  have e1 : ∀ q : Int, q ≠ 54 + 2 * to → w1 q = w q := fun q hq => by rw [h1, cpy_ne hq]
  have e2 : ∀ q : Int, q ≠ 103 → q ≠ 104 → w3 q = w1 q := fun q a b => (hS3 q (by simpa using a)).trans (hS2 q (by simpa using b))
  have e3 : ∀ q : Int, q ≠ 103 → q ≠ 104 → q ≠ 54 + 2 * to → w3 q = w q := fun q a b c => (e2 q a b).trans (e1 q c)
  obtain ⟨-, -, -, hTo, hR, -, -, -⟩ := id hI
  have hRr := hR r hr.1 hr.2
  have hRt := hR to ht.1 ht.2
  have g103 : ∀ k : Int, 0 ≤ k → k < n → w3 103 (40 * to + j + k) = w 103 (40 * r + (i + k)) := fun k a b => by rw [hz3 k a b, hz2 k a b, e1 103 (by omega)]
  have o103 : ∀ z : Int, z < 40 * to + j ∨ 40 * to + j + n ≤ z → w3 103 z = w 103 z := fun z hz => by rw [hy3 z hz, hS2 103 (by decide), e1 103 (by omega)]
  obtain ⟨w5, hw5⟩ : ∃ w5 : Hp, w5 = fun a => if a = 104 then w 104 else w3 a := ⟨_, rfl⟩
  have f5 : ∀ q : Int, q ≠ 104 → w5 q = w3 q := fun q hq => by rw [hw5]; dsimp only; rw [if_neg hq]
  have f54 : w5 104 = w 104 := by rw [hw5]; dsimp only; rw [if_pos rfl]
  have hI5 : Inv w5 := by
    refine hI.rows ht.1 ht.2 (w' := w5) (fun a b ha hb => ?_) ?_ ⟨?_, ?_, fun k k0 k1 => ?_⟩ (fun q q0 q6 hq => ⟨?_, fun k k0 k1 => ?_⟩)
    · by_cases h4 : a = 104
      · rw [h4, f54]
      · simp at ha
        rw [f5 a h4, e3 a (by omega) h4 (by omega)]
    · rw [f5 0 (by decide), f5 100 (by decide), e3 0 (by decide) (by decide) (by omega), e3 100 (by decide) (by decide) (by omega)]
      exact hTo
    · rw [f5 (53 + 2 * to) (by omega), f5 102 (by decide), e3 (53 + 2 * to) (by omega) (by omega) (by omega), e3 102 (by decide) (by decide) (by omega)]
      exact hRt.1
    · rw [f5 102 (by decide), e3 102 (by decide) (by decide) (by omega)]
      exact hRt.2.1
    · rw [f5 102 (by decide), e3 102 (by decide) (by decide) (by omega)] at k1
      rw [f5 (54 + 2 * to) (by omega), f5 103 (by decide), e2 (54 + 2 * to) (by omega) (by omega), h1]
      by_cases hk : j ≤ k ∧ k < j + n
      · rw [cpy_in hk]
        have h7 := g103 (k - j) (by omega) (by omega)
        rw [show 40 * to + j + (k - j) = 40 * to + k by omega] at h7
        rw [h7]
        have h8 := hRr.2.2 (i + (k - j)) (by omega) (by omega)
        exact h8
      · rw [cpy_out hk, o103 _ (by omega)]
        exact hRt.2.2 k k0 k1
    · rw [f5 102 (by decide), e3 102 (by decide) (by decide) (by omega)]
    · rw [f5 103 (by decide), o103 _ (by omega)]
  refine ⟨e2 (-2) (by decide) (by decide), hI5.query (w' := w3) (fun a b ha hb => ?_) ?_⟩
  · by_cases h4 : a = 104
    · rw [h4] at ha
      exact absurd (by decide) ha
    · rw [f5 a h4]
  · rw [e3 0 (by decide) (by decide) (by omega), e3 100 (by decide) (by decide) (by omega)]
    exact hTo
set_option maxRecDepth 20000 in
set_option maxHeartbeats 4000000 in
theorem l_Mcopy1 {w : Hp} {d : Nat} {r i to j n : Int} {Q : Option PV → Hp → Prop} (hT0 : Stc w) (hr : 0 ≤ r ∧ r < 6) (ht : 0 ≤ to ∧ to < 6) (hn : 0 ≤ n) (hi : 0 ≤ i ∧ i + n ≤ 40) (hj : 0 ≤ j ∧ j + n ≤ 40) (K : ∀ w1 : Hp, Same w w1 [104] → (∀ z : Int, 0 ≤ z → z < n → w1 104 z = w 103 (40 * r + (i + z))) → WP SH (d + 1) 154 133 [some (vR 100), some (vI r), some (vI i), some (vI to), some (vI j), some (vI n), some (vI n)] [] w1 Q) : ∀ (k : Nat) (y : Int) (w1 : Hp), 0 ≤ y → y + k = n → Same w w1 [104] → (∀ z : Int, 0 ≤ z → z < y → w1 104 z = w 103 (40 * r + (i + z))) → WP SH (d + 1) 154 104 [some (vR 100), some (vI r), some (vI i), some (vI to), some (vI j), some (vI n), some (vI y)] [] w1 Q := by
  intro k
  induction k with
  | zero =>
    intro y w1 h0 hyk hS hz
    have hT := hT0.same hS (by decide)
    refine wp_iload (pc' := 106) rfl rfl rfl ?_
    refine wp_iload (pc' := 108) rfl rfl rfl ?_
    refine wp_icmp_ge (pc' := 111) (pt := 133) rfl rfl rfl (fun q_1 => ?_) (fun q_1 => ?_)
    · skip
      obtain rfl : y = n := by omega
      exact K w1 hS hz
    · skip
      exfalso; omega
  | succ k ih =>
    intro y w1 h0 hyk hS hz
    have hT := hT0.same hS (by decide)
    refine wp_iload (pc' := 106) rfl rfl rfl ?_
    refine wp_iload (pc' := 108) rfl rfl rfl ?_
    refine wp_icmp_ge (pc' := 111) (pt := 133) rfl rfl rfl (fun q_1 => ?_) (fun q_1 => ?_)
    · skip
      exfalso; omega
    · skip
      refine wp_aload_n (pc' := 112) rfl rfl rfl (by decide) ?_
      refine wp_getR (r' := 104) (ci := 10) (k0 := 7) (pc' := 115) rfl rfl (by decide) (by first | assumption | rfl) (hT.get 102 rfl) ?_
      refine wp_iload (pc' := 117) rfl rfl rfl ?_
      refine wp_aload_n (pc' := 118) rfl rfl rfl (by decide) ?_
      refine wp_iload_n (pc' := 119) rfl rfl rfl ?_
      refine wp_iload_n (pc' := 120) rfl rfl rfl ?_
      refine wp_iload (pc' := 122) rfl rfl rfl ?_
      refine wp_iadd (pc' := 123) rfl rfl (by first | exact w32_id (by omega) (by omega) | rfl) ?_
      refine wp_call (pc' := 126) rfl rfl rfl rfl rfl ⟨Nat.le_of_ble_eq_true rfl, Nat.le_of_ble_eq_true rfl, Nat.le_of_ble_eq_true rfl, Nat.le_of_ble_eq_true rfl, Nat.le_of_ble_eq_true rfl⟩ rfl (c_Mod_rowAt hT hr (by omega)) ?_
      intro v1 w9 hq1
      rw [hq1.1, hq1.2]
      clear hq1 v1 w9
      dsimp only [Option.toList, List.cons_append, List.nil_append, List.append_nil]
      refine wp_iastore (pc' := 127) rfl rfl (by first | assumption | rfl) (by omega) ?_
      refine wp_iinc (pc' := 130) rfl rfl rfl (inc_id (by omega) (by omega)) rfl ?_
      dsimp only [lset, lset2, List.set, List.getElem?_cons_zero, List.getElem?_cons_succ]
      refine wp_goto (pc' := 104) rfl rfl ?_
      refine ih (y + 1) _ (by omega) (by omega) (hS.put (by decide)) (fun z z0 z1 => ?_)
      by_cases hzy : z = y
      · rw [hzy, up_eq, hS 103 (by decide)]
      · rw [up_at hzy]
        exact hz z z0 (by omega)
set_option maxRecDepth 20000 in
set_option maxHeartbeats 4000000 in
theorem l_Mcopy2 {w : Hp} {d : Nat} {r i to j n : Int} {Q : Option PV → Hp → Prop} (hT0 : Stc w) (hr : 0 ≤ r ∧ r < 6) (ht : 0 ≤ to ∧ to < 6) (hn : 0 ≤ n) (hi : 0 ≤ i ∧ i + n ≤ 40) (hj : 0 ≤ j ∧ j + n ≤ 40) (K : ∀ w1 : Hp, Same w w1 [103] → (∀ z : Int, 0 ≤ z → z < n → w1 103 (40 * to + j + z) = w 104 z) → (∀ z : Int, z < 40 * to + j ∨ 40 * to + j + n ≤ z → w1 103 z = w 103 z) → WP SH d 154 171 [some (vR 100), some (vI r), some (vI i), some (vI to), some (vI j), some (vI n), some (vI n)] [] w1 Q) : ∀ (k : Nat) (y : Int) (w1 : Hp), 0 ≤ y → y + k = n → Same w w1 [103] → (∀ z : Int, 0 ≤ z → z < y → w1 103 (40 * to + j + z) = w 104 z) → (∀ z : Int, z < 40 * to + j ∨ 40 * to + j + n ≤ z → w1 103 z = w 103 z) → WP SH d 154 136 [some (vR 100), some (vI r), some (vI i), some (vI to), some (vI j), some (vI n), some (vI y)] [] w1 Q := by
  intro k
  induction k with
  | zero =>
    intro y w1 h0 hyk hS hz hzz
    have hT := hT0.same hS (by decide)
    refine wp_iload (pc' := 138) rfl rfl rfl ?_
    refine wp_iload (pc' := 140) rfl rfl rfl ?_
    refine wp_icmp_ge (pc' := 143) (pt := 171) rfl rfl rfl (fun q_1 => ?_) (fun q_1 => ?_)
    · skip
      obtain rfl : y = n := by omega
      exact K w1 hS hz hzz
    · skip
      exfalso; omega
  | succ k ih =>
    intro y w1 h0 hyk hS hz hzz
    have hT := hT0.same hS (by decide)
    refine wp_iload (pc' := 138) rfl rfl rfl ?_
    refine wp_iload (pc' := 140) rfl rfl rfl ?_
    refine wp_icmp_ge (pc' := 143) (pt := 171) rfl rfl rfl (fun q_1 => ?_) (fun q_1 => ?_)
    · skip
      exfalso; omega
    · skip
      refine wp_aload_n (pc' := 144) rfl rfl rfl (by decide) ?_
      refine wp_getR (r' := 103) (ci := 10) (k0 := 6) (pc' := 147) rfl rfl (by decide) (by first | assumption | rfl) (hT.get 101 rfl) ?_
      refine wp_bipush (a := 40) (pc' := 149) rfl rfl rfl ?_
      refine wp_iload_n (pc' := 150) rfl rfl rfl ?_
      refine wp_imul (pc' := 151) rfl rfl (by first | exact w32_id (by omega) (by omega) | rfl) ?_
      refine wp_iload (pc' := 153) rfl rfl rfl ?_
      refine wp_iadd (pc' := 154) rfl rfl (by first | exact w32_id (by omega) (by omega) | rfl) ?_
      refine wp_iload (pc' := 156) rfl rfl rfl ?_
      refine wp_iadd (pc' := 157) rfl rfl (by first | exact w32_id (by omega) (by omega) | rfl) ?_
      refine wp_aload_n (pc' := 158) rfl rfl rfl (by decide) ?_
      refine wp_getR (r' := 104) (ci := 10) (k0 := 7) (pc' := 161) rfl rfl (by decide) (by first | assumption | rfl) (hT.get 102 rfl) ?_
      refine wp_iload (pc' := 163) rfl rfl rfl ?_
      refine wp_iaload (pc' := 164) rfl rfl (by first | assumption | rfl) (by omega) ?_
      refine wp_iastore (pc' := 165) rfl rfl (by first | assumption | rfl) (by omega) ?_
      refine wp_iinc (pc' := 168) rfl rfl rfl (inc_id (by omega) (by omega)) rfl ?_
      dsimp only [lset, lset2, List.set, List.getElem?_cons_zero, List.getElem?_cons_succ]
      refine wp_goto (pc' := 136) rfl rfl ?_
      refine ih (y + 1) _ (by omega) (by omega) (hS.put (by decide)) (fun z z0 z1 => ?_) (fun z hq => ?_)
      · by_cases hzy : z = y
        · rw [hzy, up_eq, hS 104 (by decide)]
        · rw [up_at (by omega)]
          exact hz z z0 (by omega)
      · rw [up_at (by omega)]
        exact hzz z hq
set_option maxRecDepth 20000 in
set_option maxHeartbeats 4000000 in
theorem p_copy {w : Hp} {d : Nat} {r : Int} {i : Int} {to : Int} {j : Int} {n : Int} (hI : Inv w) (hi : I32 i) (hj : I32 j) (hn : I32 n) : WP SH (d + 9) 84 0 [some (vR 0), some (vI r), some (vI i), some (vI to), some (vI j), some (vI n)] [] w (fun v0 w1 => ∃ a, v0 = some (vI a) ∧ w1 (-2) = w (-2) ∧ WP SH (d + 9) 154 0 [some (vR 100), some (vI r), some (vI i), some (vI to), some (vI j), some (vI n), none] [] w1 (fun v2 w2 => v2 = some (vI a) ∧ w2 (-2) = w1 (-2) ∧ Inv w2)) := by
  obtain ⟨hT, hRO, hIF, hITo, hIR, hIT, hIL, hIK⟩ := id hI
  obtain ⟨hi1, hi2⟩ := id hi
  obtain ⟨hj1, hj2⟩ := id hj
  obtain ⟨hn1, hn2⟩ := id hn
  refine wp_iload_n (pc' := 1) rfl rfl rfl ?_
  refine wp_call (pc' := 4) rfl rfl rfl rfl rfl ⟨Nat.le_of_ble_eq_true rfl, Nat.le_of_ble_eq_true rfl, Nat.le_of_ble_eq_true rfl, Nat.le_of_ble_eq_true rfl, Nat.le_of_ble_eq_true rfl⟩ rfl (c_VH_isRow) ?_
  rintro v1 w9 ⟨hw9, ⟨hv1, hbr⟩ | ⟨hv1, hbr⟩⟩
  · skip
    rw [hv1, hw9]
    clear hv1 hw9 v1 w9
    have hstr := strip_row hT hbr.1 hbr.2
    have hs7r := hstr.1.1
    have hs1r := hstr.1.2.1
    have hirr := hIR r hbr.1 hbr.2
    dsimp only [Option.toList, List.cons_append, List.nil_append, List.append_nil]
    refine wp_if_eq (pc' := 7) (pt := 14) rfl rfl rfl (fun q_1 => absurd q_1 (by decide)) (fun q_1 => ?_)
    refine wp_iload_n (pc' := 8) rfl rfl rfl ?_
    refine wp_call (pc' := 11) rfl rfl rfl rfl rfl ⟨Nat.le_of_ble_eq_true rfl, Nat.le_of_ble_eq_true rfl, Nat.le_of_ble_eq_true rfl, Nat.le_of_ble_eq_true rfl, Nat.le_of_ble_eq_true rfl⟩ rfl (c_VH_isRow) ?_
    rintro v1 w9 ⟨hw9, ⟨hv1, hbt⟩ | ⟨hv1, hbt⟩⟩
    · skip
      rw [hv1, hw9]
      clear hv1 hw9 v1 w9
      have hstt := strip_row hT hbt.1 hbt.2
      have hs7t := hstt.1.1
      have hs1t := hstt.1.2.1
      have hirt := hIR to hbt.1 hbt.2
      dsimp only [Option.toList, List.cons_append, List.nil_append, List.append_nil]
      refine wp_if_ne (pc' := 14) (pt := 16) rfl rfl rfl (fun q_2 => ?_) (fun q_2 => absurd (by decide) q_2)
      refine wp_iload (pc' := 18) rfl rfl rfl ?_
      refine wp_if_ge (pc' := 21) (pt := 27) rfl rfl rfl (fun q_3 => ?_) (fun q_3 => ?_)
      · skip
        refine wp_aload_n (pc' := 28) rfl rfl rfl (by decide) ?_
        refine wp_getR (r' := 1) (ci := 9) (k0 := 0) (pc' := 31) rfl rfl (by decide) (by first | assumption | rfl) (hT.get 0 rfl) ?_
        refine wp_iload_n (pc' := 32) rfl rfl rfl ?_
        refine wp_aaload (r' := (53 + 2 * r)) (pc' := 33) rfl rfl (by first | assumption | rfl) rfl (by omega) (hstr.2) ?_
        refine wp_call (pc' := 36) rfl rfl rfl rfl rfl ⟨Nat.le_of_ble_eq_true rfl, Nat.le_of_ble_eq_true rfl, Nat.le_of_ble_eq_true rfl, Nat.le_of_ble_eq_true rfl, Nat.le_of_ble_eq_true rfl⟩ (by have hk7 : r = 0 ∨ r = 1 ∨ r = 2 ∨ r = 3 ∨ r = 4 ∨ r = 5 := (by omega); rcases hk7 with rfl | rfl | rfl | rfl | rfl | rfl <;> rfl) (c_Strip_isMissing hstr.1) ?_
        rintro v1 w9 ⟨hw9, ⟨hv1, hmr⟩ | ⟨hv1, hmr⟩⟩
        · skip
          rw [hv1, hw9]
          clear hv1 hw9 v1 w9
          dsimp only [Option.toList, List.cons_append, List.nil_append, List.append_nil]
          refine wp_if_ne (pc' := 39) (pt := 51) rfl rfl rfl (fun q_4 => ?_) (fun q_4 => absurd (by decide) q_4)
          refine wp_aload_n (pc' := 52) rfl rfl rfl (by decide) ?_
          refine wp_iconst (a := 1) (pc' := 53) rfl rfl rfl ?_
          refine wp_call (pc' := 56) rfl rfl rfl rfl rfl ⟨Nat.le_of_ble_eq_true rfl, Nat.le_of_ble_eq_true rfl, Nat.le_of_ble_eq_true rfl, Nat.le_of_ble_eq_true rfl, Nat.le_of_ble_eq_true rfl⟩ rfl (c_VH_refuse hT (by decide)) ?_
          intro v1 w9 hq1
          rw [hq1.1, hq1.2]
          clear hq1 v1 w9
          dsimp only [Option.toList, List.cons_append, List.nil_append, List.append_nil]
          refine wp_ret rfl rfl rfl ?_
          refine ⟨_, rfl, ?_, ?_⟩
          · rw [up_ne (by decide), up_ne (by decide)]
          change WP SH _ _ _ _ _ (refW w 1) _
          have hT := refW_stc (f := 1) hT
          have e2r : refW w 1 102 r = w 102 r := by rw [refW_ne (by decide) (by decide)]
          have e2t : refW w 1 102 to = w 102 to := by rw [refW_ne (by decide) (by decide)]
          refine wp_iload_n (pc' := 1) rfl rfl rfl ?_
          refine wp_call (pc' := 4) rfl rfl rfl rfl rfl ⟨Nat.le_of_ble_eq_true rfl, Nat.le_of_ble_eq_true rfl, Nat.le_of_ble_eq_true rfl, Nat.le_of_ble_eq_true rfl, Nat.le_of_ble_eq_true rfl⟩ rfl (c_Mod_isRow) ?_
          rintro v1 w9 ⟨hw9, ⟨hv1, hc1⟩ | ⟨hv1, hc1⟩⟩
          · skip
            rw [hv1, hw9]
            clear hv1 hw9 v1 w9
            dsimp only [Option.toList, List.cons_append, List.nil_append, List.append_nil]
            refine wp_if_eq (pc' := 7) (pt := 14) rfl rfl rfl (fun q_55 => absurd q_55 (by decide)) (fun q_55 => ?_)
            refine wp_iload_n (pc' := 8) rfl rfl rfl ?_
            refine wp_call (pc' := 11) rfl rfl rfl rfl rfl ⟨Nat.le_of_ble_eq_true rfl, Nat.le_of_ble_eq_true rfl, Nat.le_of_ble_eq_true rfl, Nat.le_of_ble_eq_true rfl, Nat.le_of_ble_eq_true rfl⟩ rfl (c_Mod_isRow) ?_
            rintro v1 w9 ⟨hw9, ⟨hv1, hc2⟩ | ⟨hv1, hc2⟩⟩
            · skip
              rw [hv1, hw9]
              clear hv1 hw9 v1 w9
              dsimp only [Option.toList, List.cons_append, List.nil_append, List.append_nil]
              refine wp_if_ne (pc' := 14) (pt := 16) rfl rfl rfl (fun q_56 => ?_) (fun q_56 => absurd (by decide) q_56)
              refine wp_iload (pc' := 18) rfl rfl rfl ?_
              refine wp_if_ge (pc' := 21) (pt := 27) rfl rfl rfl (fun q_57 => ?_) (fun q_57 => ?_)
              · skip
                refine wp_aload_n (pc' := 28) rfl rfl rfl (by decide) ?_
                refine wp_getR (r' := 102) (ci := 10) (k0 := 5) (pc' := 31) rfl rfl (by decide) (by first | assumption | rfl) (hT.get 100 rfl) ?_
                refine wp_iload_n (pc' := 32) rfl rfl rfl ?_
                refine wp_iaload (pc' := 33) rfl rfl (by first | assumption | rfl) (by omega) ?_
                refine wp_if_lt (pc' := 36) (pt := 45) rfl rfl rfl (fun q_58 => ?_) (fun q_58 => ?_)
                · skip
                  refine wp_aload_n (pc' := 46) rfl rfl rfl (by decide) ?_
                  refine wp_iconst (a := 1) (pc' := 47) rfl rfl rfl ?_
                  refine wp_call (pc' := 50) rfl rfl rfl rfl rfl ⟨Nat.le_of_ble_eq_true rfl, Nat.le_of_ble_eq_true rfl, Nat.le_of_ble_eq_true rfl, Nat.le_of_ble_eq_true rfl, Nat.le_of_ble_eq_true rfl⟩ rfl (c_Mod_meets hT (by decide)) ?_
                  intro v1 w9 hq1
                  rw [hq1.1, hq1.2]
                  clear hq1 v1 w9
                  dsimp only [Option.toList, List.cons_append, List.nil_append, List.append_nil]
                  refine wp_ret rfl rfl rfl ?_
                  first
                  | (exfalso; omega)
                  | exact ⟨rfl, rfl, hI⟩
                  | exact ⟨rfl, by rw [up_ne (by decide), up_ne (by decide)]; rfl, refW_inv hI (by decide)⟩
                · skip
                  refine wp_aload_n (pc' := 37) rfl rfl rfl (by decide) ?_
                  refine wp_getR (r' := 102) (ci := 10) (k0 := 5) (pc' := 40) rfl rfl (by decide) (by first | assumption | rfl) (hT.get 100 rfl) ?_
                  refine wp_iload_n (pc' := 41) rfl rfl rfl ?_
                  refine wp_iaload (pc' := 42) rfl rfl (by first | assumption | rfl) (by omega) ?_
                  refine wp_if_ge (pc' := 45) (pt := 51) rfl rfl rfl (fun q_59 => ?_) (fun q_59 => ?_)
                  · skip
                    exfalso; omega
                  · skip
                    refine wp_aload_n (pc' := 46) rfl rfl rfl (by decide) ?_
                    refine wp_iconst (a := 1) (pc' := 47) rfl rfl rfl ?_
                    refine wp_call (pc' := 50) rfl rfl rfl rfl rfl ⟨Nat.le_of_ble_eq_true rfl, Nat.le_of_ble_eq_true rfl, Nat.le_of_ble_eq_true rfl, Nat.le_of_ble_eq_true rfl, Nat.le_of_ble_eq_true rfl⟩ rfl (c_Mod_meets hT (by decide)) ?_
                    intro v1 w9 hq1
                    rw [hq1.1, hq1.2]
                    clear hq1 v1 w9
                    dsimp only [Option.toList, List.cons_append, List.nil_append, List.append_nil]
                    refine wp_ret rfl rfl rfl ?_
                    first
                    | (exfalso; omega)
                    | exact ⟨rfl, rfl, hI⟩
                    | exact ⟨rfl, by rw [up_ne (by decide), up_ne (by decide)]; rfl, refW_inv hI (by decide)⟩
              · skip
                exfalso; omega
            · skip
              rw [hv1, hw9]
              clear hv1 hw9 v1 w9
              dsimp only [Option.toList, List.cons_append, List.nil_append, List.append_nil]
              refine wp_if_ne (pc' := 14) (pt := 16) rfl rfl rfl (fun q_60 => absurd q_60 (by decide)) (fun q_60 => ?_)
              exfalso; omega
          · skip
            rw [hv1, hw9]
            clear hv1 hw9 v1 w9
            dsimp only [Option.toList, List.cons_append, List.nil_append, List.append_nil]
            refine wp_if_eq (pc' := 7) (pt := 14) rfl rfl rfl (fun q_61 => ?_) (fun q_61 => absurd (by decide) q_61)
            exfalso; omega
        · skip
          rw [hv1, hw9]
          clear hv1 hw9 v1 w9
          dsimp only [Option.toList, List.cons_append, List.nil_append, List.append_nil]
          refine wp_if_ne (pc' := 39) (pt := 51) rfl rfl rfl (fun q_62 => absurd q_62 (by decide)) (fun q_62 => ?_)
          refine wp_aload_n (pc' := 40) rfl rfl rfl (by decide) ?_
          refine wp_getR (r' := 1) (ci := 9) (k0 := 0) (pc' := 43) rfl rfl (by decide) (by first | assumption | rfl) (hT.get 0 rfl) ?_
          refine wp_iload_n (pc' := 44) rfl rfl rfl ?_
          refine wp_aaload (r' := (53 + 2 * to)) (pc' := 45) rfl rfl (by first | assumption | rfl) rfl (by omega) (hstt.2) ?_
          refine wp_call (pc' := 48) rfl rfl rfl rfl rfl ⟨Nat.le_of_ble_eq_true rfl, Nat.le_of_ble_eq_true rfl, Nat.le_of_ble_eq_true rfl, Nat.le_of_ble_eq_true rfl, Nat.le_of_ble_eq_true rfl⟩ (by have hk7 : to = 0 ∨ to = 1 ∨ to = 2 ∨ to = 3 ∨ to = 4 ∨ to = 5 := (by omega); rcases hk7 with rfl | rfl | rfl | rfl | rfl | rfl <;> rfl) (c_Strip_isMissing hstt.1) ?_
          rintro v1 w9 ⟨hw9, ⟨hv1, hmt⟩ | ⟨hv1, hmt⟩⟩
          · skip
            rw [hv1, hw9]
            clear hv1 hw9 v1 w9
            dsimp only [Option.toList, List.cons_append, List.nil_append, List.append_nil]
            refine wp_if_eq (pc' := 51) (pt := 57) rfl rfl rfl (fun q_63 => absurd q_63 (by decide)) (fun q_63 => ?_)
            refine wp_aload_n (pc' := 52) rfl rfl rfl (by decide) ?_
            refine wp_iconst (a := 1) (pc' := 53) rfl rfl rfl ?_
            refine wp_call (pc' := 56) rfl rfl rfl rfl rfl ⟨Nat.le_of_ble_eq_true rfl, Nat.le_of_ble_eq_true rfl, Nat.le_of_ble_eq_true rfl, Nat.le_of_ble_eq_true rfl, Nat.le_of_ble_eq_true rfl⟩ rfl (c_VH_refuse hT (by decide)) ?_
            intro v1 w9 hq1
            rw [hq1.1, hq1.2]
            clear hq1 v1 w9
            dsimp only [Option.toList, List.cons_append, List.nil_append, List.append_nil]
            refine wp_ret rfl rfl rfl ?_
            refine ⟨_, rfl, ?_, ?_⟩
            · rw [up_ne (by decide), up_ne (by decide)]
            change WP SH _ _ _ _ _ (refW w 1) _
            have hT := refW_stc (f := 1) hT
            have e2r : refW w 1 102 r = w 102 r := by rw [refW_ne (by decide) (by decide)]
            have e2t : refW w 1 102 to = w 102 to := by rw [refW_ne (by decide) (by decide)]
            refine wp_iload_n (pc' := 1) rfl rfl rfl ?_
            refine wp_call (pc' := 4) rfl rfl rfl rfl rfl ⟨Nat.le_of_ble_eq_true rfl, Nat.le_of_ble_eq_true rfl, Nat.le_of_ble_eq_true rfl, Nat.le_of_ble_eq_true rfl, Nat.le_of_ble_eq_true rfl⟩ rfl (c_Mod_isRow) ?_
            rintro v1 w9 ⟨hw9, ⟨hv1, hc1⟩ | ⟨hv1, hc1⟩⟩
            · skip
              rw [hv1, hw9]
              clear hv1 hw9 v1 w9
              dsimp only [Option.toList, List.cons_append, List.nil_append, List.append_nil]
              refine wp_if_eq (pc' := 7) (pt := 14) rfl rfl rfl (fun q_114 => absurd q_114 (by decide)) (fun q_114 => ?_)
              refine wp_iload_n (pc' := 8) rfl rfl rfl ?_
              refine wp_call (pc' := 11) rfl rfl rfl rfl rfl ⟨Nat.le_of_ble_eq_true rfl, Nat.le_of_ble_eq_true rfl, Nat.le_of_ble_eq_true rfl, Nat.le_of_ble_eq_true rfl, Nat.le_of_ble_eq_true rfl⟩ rfl (c_Mod_isRow) ?_
              rintro v1 w9 ⟨hw9, ⟨hv1, hc2⟩ | ⟨hv1, hc2⟩⟩
              · skip
                rw [hv1, hw9]
                clear hv1 hw9 v1 w9
                dsimp only [Option.toList, List.cons_append, List.nil_append, List.append_nil]
                refine wp_if_ne (pc' := 14) (pt := 16) rfl rfl rfl (fun q_115 => ?_) (fun q_115 => absurd (by decide) q_115)
                refine wp_iload (pc' := 18) rfl rfl rfl ?_
                refine wp_if_ge (pc' := 21) (pt := 27) rfl rfl rfl (fun q_116 => ?_) (fun q_116 => ?_)
                · skip
                  refine wp_aload_n (pc' := 28) rfl rfl rfl (by decide) ?_
                  refine wp_getR (r' := 102) (ci := 10) (k0 := 5) (pc' := 31) rfl rfl (by decide) (by first | assumption | rfl) (hT.get 100 rfl) ?_
                  refine wp_iload_n (pc' := 32) rfl rfl rfl ?_
                  refine wp_iaload (pc' := 33) rfl rfl (by first | assumption | rfl) (by omega) ?_
                  refine wp_if_lt (pc' := 36) (pt := 45) rfl rfl rfl (fun q_117 => ?_) (fun q_117 => ?_)
                  · skip
                    refine wp_aload_n (pc' := 46) rfl rfl rfl (by decide) ?_
                    refine wp_iconst (a := 1) (pc' := 47) rfl rfl rfl ?_
                    refine wp_call (pc' := 50) rfl rfl rfl rfl rfl ⟨Nat.le_of_ble_eq_true rfl, Nat.le_of_ble_eq_true rfl, Nat.le_of_ble_eq_true rfl, Nat.le_of_ble_eq_true rfl, Nat.le_of_ble_eq_true rfl⟩ rfl (c_Mod_meets hT (by decide)) ?_
                    intro v1 w9 hq1
                    rw [hq1.1, hq1.2]
                    clear hq1 v1 w9
                    dsimp only [Option.toList, List.cons_append, List.nil_append, List.append_nil]
                    refine wp_ret rfl rfl rfl ?_
                    first
                    | (exfalso; omega)
                    | exact ⟨rfl, rfl, hI⟩
                    | exact ⟨rfl, by rw [up_ne (by decide), up_ne (by decide)]; rfl, refW_inv hI (by decide)⟩
                  · skip
                    refine wp_aload_n (pc' := 37) rfl rfl rfl (by decide) ?_
                    refine wp_getR (r' := 102) (ci := 10) (k0 := 5) (pc' := 40) rfl rfl (by decide) (by first | assumption | rfl) (hT.get 100 rfl) ?_
                    refine wp_iload_n (pc' := 41) rfl rfl rfl ?_
                    refine wp_iaload (pc' := 42) rfl rfl (by first | assumption | rfl) (by omega) ?_
                    refine wp_if_ge (pc' := 45) (pt := 51) rfl rfl rfl (fun q_118 => ?_) (fun q_118 => ?_)
                    · skip
                      exfalso; omega
                    · skip
                      refine wp_aload_n (pc' := 46) rfl rfl rfl (by decide) ?_
                      refine wp_iconst (a := 1) (pc' := 47) rfl rfl rfl ?_
                      refine wp_call (pc' := 50) rfl rfl rfl rfl rfl ⟨Nat.le_of_ble_eq_true rfl, Nat.le_of_ble_eq_true rfl, Nat.le_of_ble_eq_true rfl, Nat.le_of_ble_eq_true rfl, Nat.le_of_ble_eq_true rfl⟩ rfl (c_Mod_meets hT (by decide)) ?_
                      intro v1 w9 hq1
                      rw [hq1.1, hq1.2]
                      clear hq1 v1 w9
                      dsimp only [Option.toList, List.cons_append, List.nil_append, List.append_nil]
                      refine wp_ret rfl rfl rfl ?_
                      first
                      | (exfalso; omega)
                      | exact ⟨rfl, rfl, hI⟩
                      | exact ⟨rfl, by rw [up_ne (by decide), up_ne (by decide)]; rfl, refW_inv hI (by decide)⟩
                · skip
                  exfalso; omega
              · skip
                rw [hv1, hw9]
                clear hv1 hw9 v1 w9
                dsimp only [Option.toList, List.cons_append, List.nil_append, List.append_nil]
                refine wp_if_ne (pc' := 14) (pt := 16) rfl rfl rfl (fun q_119 => absurd q_119 (by decide)) (fun q_119 => ?_)
                exfalso; omega
            · skip
              rw [hv1, hw9]
              clear hv1 hw9 v1 w9
              dsimp only [Option.toList, List.cons_append, List.nil_append, List.append_nil]
              refine wp_if_eq (pc' := 7) (pt := 14) rfl rfl rfl (fun q_120 => ?_) (fun q_120 => absurd (by decide) q_120)
              exfalso; omega
          · skip
            rw [hv1, hw9]
            clear hv1 hw9 v1 w9
            dsimp only [Option.toList, List.cons_append, List.nil_append, List.append_nil]
            refine wp_if_eq (pc' := 51) (pt := 57) rfl rfl rfl (fun q_121 => ?_) (fun q_121 => absurd (by decide) q_121)
            refine wp_aload_n (pc' := 58) rfl rfl rfl (by decide) ?_
            refine wp_getR (r' := 1) (ci := 9) (k0 := 0) (pc' := 61) rfl rfl (by decide) (by first | assumption | rfl) (hT.get 0 rfl) ?_
            refine wp_iload_n (pc' := 62) rfl rfl rfl ?_
            refine wp_aaload (r' := (53 + 2 * r)) (pc' := 63) rfl rfl (by first | assumption | rfl) rfl (by omega) (hstr.2) ?_
            refine wp_iload_n (pc' := 64) rfl rfl rfl ?_
            refine wp_iload (pc' := 66) rfl rfl rfl ?_
            refine wp_call (pc' := 69) rfl rfl rfl rfl rfl ⟨Nat.le_of_ble_eq_true rfl, Nat.le_of_ble_eq_true rfl, Nat.le_of_ble_eq_true rfl, Nat.le_of_ble_eq_true rfl, Nat.le_of_ble_eq_true rfl⟩ (by have hk7 : r = 0 ∨ r = 1 ∨ r = 2 ∨ r = 3 ∨ r = 4 ∨ r = 5 := (by omega); rcases hk7 with rfl | rfl | rfl | rfl | rfl | rfl <;> rfl) (c_Strip_holds hstr.1 (by omega) hn.2) ?_
            rintro v1 w9 ⟨hw9, ⟨hv1, hhr⟩ | ⟨hv1, hhr⟩⟩
            · skip
              rw [hv1, hw9]
              clear hv1 hw9 v1 w9
              dsimp only [Option.toList, List.cons_append, List.nil_append, List.append_nil]
              refine wp_if_eq (pc' := 72) (pt := 88) rfl rfl rfl (fun q_122 => absurd q_122 (by decide)) (fun q_122 => ?_)
              refine wp_aload_n (pc' := 73) rfl rfl rfl (by decide) ?_
              refine wp_getR (r' := 1) (ci := 9) (k0 := 0) (pc' := 76) rfl rfl (by decide) (by first | assumption | rfl) (hT.get 0 rfl) ?_
              refine wp_iload_n (pc' := 77) rfl rfl rfl ?_
              refine wp_aaload (r' := (53 + 2 * to)) (pc' := 78) rfl rfl (by first | assumption | rfl) rfl (by omega) (hstt.2) ?_
              refine wp_iload (pc' := 80) rfl rfl rfl ?_
              refine wp_iload (pc' := 82) rfl rfl rfl ?_
              refine wp_call (pc' := 85) rfl rfl rfl rfl rfl ⟨Nat.le_of_ble_eq_true rfl, Nat.le_of_ble_eq_true rfl, Nat.le_of_ble_eq_true rfl, Nat.le_of_ble_eq_true rfl, Nat.le_of_ble_eq_true rfl⟩ (by have hk7 : to = 0 ∨ to = 1 ∨ to = 2 ∨ to = 3 ∨ to = 4 ∨ to = 5 := (by omega); rcases hk7 with rfl | rfl | rfl | rfl | rfl | rfl <;> rfl) (c_Strip_holds hstt.1 (by omega) hn.2) ?_
              rintro v1 w9 ⟨hw9, ⟨hv1, hht⟩ | ⟨hv1, hht⟩⟩
              · skip
                rw [hv1, hw9]
                clear hv1 hw9 v1 w9
                dsimp only [Option.toList, List.cons_append, List.nil_append, List.append_nil]
                refine wp_if_ne (pc' := 88) (pt := 94) rfl rfl rfl (fun q_123 => ?_) (fun q_123 => absurd (by decide) q_123)
                refine wp_aload_n (pc' := 95) rfl rfl rfl (by decide) ?_
                refine wp_getR (r' := 1) (ci := 9) (k0 := 0) (pc' := 98) rfl rfl (by decide) (by first | assumption | rfl) (hT.get 0 rfl) ?_
                refine wp_iload_n (pc' := 99) rfl rfl rfl ?_
                refine wp_aaload (r' := (53 + 2 * r)) (pc' := 100) rfl rfl (by first | assumption | rfl) rfl (by omega) (hstr.2) ?_
                refine wp_getR (r' := (54 + 2 * r)) (ci := 7) (k0 := 0) (pc' := 103) rfl rfl (by decide) (by first | assumption | rfl) (hstr.1.2.2.1) ?_
                refine wp_iload_n (pc' := 104) rfl rfl rfl ?_
                refine wp_aload_n (pc' := 105) rfl rfl rfl (by decide) ?_
                refine wp_getR (r' := 1) (ci := 9) (k0 := 0) (pc' := 108) rfl rfl (by decide) (by first | assumption | rfl) (hT.get 0 rfl) ?_
                refine wp_iload_n (pc' := 109) rfl rfl rfl ?_
                refine wp_aaload (r' := (53 + 2 * to)) (pc' := 110) rfl rfl (by first | assumption | rfl) rfl (by omega) (hstt.2) ?_
                refine wp_getR (r' := (54 + 2 * to)) (ci := 7) (k0 := 0) (pc' := 113) rfl rfl (by decide) (by first | assumption | rfl) (hstt.1.2.2.1) ?_
                refine wp_iload (pc' := 115) rfl rfl rfl ?_
                refine wp_iload (pc' := 117) rfl rfl rfl ?_
                refine wp_cpy (pc' := 120) rfl rfl (by first | assumption | rfl) (by first | assumption | rfl) (by refine ⟨?_, ?_, ?_, ?_, ?_, Nat.le_of_ble_eq_true rfl⟩ <;> omega) ?_
                refine wp_iconst (a := 1) (pc' := 121) rfl rfl rfl ?_
                refine wp_ret rfl rfl rfl ?_
                refine ⟨_, rfl, ?_, ?_⟩
                · rw [cpy_ne (by omega)]
                obtain ⟨w1, hw1⟩ : ∃ w1, w1 = cpy w (54 + 2 * r) i (54 + 2 * to) j n := ⟨_, rfl⟩
                rw [← hw1]
                have e2 : w1 102 = w 102 := by rw [hw1, cpy_ne (by omega)]
                have e2r : w1 102 r = w 102 r := by rw [e2]
                have e2t : w1 102 to = w 102 to := by rw [e2]
                have hT : Stc w1 := Stc.row hT hbt.1 hbt.2 (fun a b ha _ => by rw [hw1, cpy_ne (by simpa using ha)])
                refine wp_iload_n (pc' := 1) rfl rfl rfl ?_
                refine wp_call (pc' := 4) rfl rfl rfl rfl rfl ⟨Nat.le_of_ble_eq_true rfl, Nat.le_of_ble_eq_true rfl, Nat.le_of_ble_eq_true rfl, Nat.le_of_ble_eq_true rfl, Nat.le_of_ble_eq_true rfl⟩ rfl (c_Mod_isRow) ?_
                rintro v1 w9 ⟨hw9, ⟨hv1, hc1⟩ | ⟨hv1, hc1⟩⟩
                · skip
                  rw [hv1, hw9]
                  clear hv1 hw9 v1 w9
                  dsimp only [Option.toList, List.cons_append, List.nil_append, List.append_nil]
                  refine wp_if_eq (pc' := 7) (pt := 14) rfl rfl rfl (fun q_175 => absurd q_175 (by decide)) (fun q_175 => ?_)
                  refine wp_iload_n (pc' := 8) rfl rfl rfl ?_
                  refine wp_call (pc' := 11) rfl rfl rfl rfl rfl ⟨Nat.le_of_ble_eq_true rfl, Nat.le_of_ble_eq_true rfl, Nat.le_of_ble_eq_true rfl, Nat.le_of_ble_eq_true rfl, Nat.le_of_ble_eq_true rfl⟩ rfl (c_Mod_isRow) ?_
                  rintro v1 w9 ⟨hw9, ⟨hv1, hc2⟩ | ⟨hv1, hc2⟩⟩
                  · skip
                    rw [hv1, hw9]
                    clear hv1 hw9 v1 w9
                    dsimp only [Option.toList, List.cons_append, List.nil_append, List.append_nil]
                    refine wp_if_ne (pc' := 14) (pt := 16) rfl rfl rfl (fun q_176 => ?_) (fun q_176 => absurd (by decide) q_176)
                    refine wp_iload (pc' := 18) rfl rfl rfl ?_
                    refine wp_if_ge (pc' := 21) (pt := 27) rfl rfl rfl (fun q_177 => ?_) (fun q_177 => ?_)
                    · skip
                      refine wp_aload_n (pc' := 28) rfl rfl rfl (by decide) ?_
                      refine wp_getR (r' := 102) (ci := 10) (k0 := 5) (pc' := 31) rfl rfl (by decide) (by first | assumption | rfl) (hT.get 100 rfl) ?_
                      refine wp_iload_n (pc' := 32) rfl rfl rfl ?_
                      refine wp_iaload (pc' := 33) rfl rfl (by first | assumption | rfl) (by omega) ?_
                      refine wp_if_lt (pc' := 36) (pt := 45) rfl rfl rfl (fun q_178 => ?_) (fun q_178 => ?_)
                      · skip
                        exfalso; omega
                      · skip
                        refine wp_aload_n (pc' := 37) rfl rfl rfl (by decide) ?_
                        refine wp_getR (r' := 102) (ci := 10) (k0 := 5) (pc' := 40) rfl rfl (by decide) (by first | assumption | rfl) (hT.get 100 rfl) ?_
                        refine wp_iload_n (pc' := 41) rfl rfl rfl ?_
                        refine wp_iaload (pc' := 42) rfl rfl (by first | assumption | rfl) (by omega) ?_
                        refine wp_if_ge (pc' := 45) (pt := 51) rfl rfl rfl (fun q_179 => ?_) (fun q_179 => ?_)
                        · skip
                          refine wp_iload_n (pc' := 52) rfl rfl rfl ?_
                          refine wp_if_lt (pc' := 55) (pt := 95) rfl rfl rfl (fun q_180 => ?_) (fun q_180 => ?_)
                          · skip
                            exfalso; omega
                          · skip
                            refine wp_iload (pc' := 57) rfl rfl rfl ?_
                            refine wp_if_lt (pc' := 60) (pt := 95) rfl rfl rfl (fun q_181 => ?_) (fun q_181 => ?_)
                            · skip
                              exfalso; omega
                            · skip
                              refine wp_iload_n (pc' := 61) rfl rfl rfl ?_
                              refine wp_i2l (pc' := 62) rfl rfl ?_
                              refine wp_iload (pc' := 64) rfl rfl rfl ?_
                              refine wp_i2l (pc' := 65) rfl rfl ?_
                              refine wp_ladd (pc' := 66) rfl rfl (by first | exact w64_id (by omega) (by omega) | rfl) ?_
                              refine wp_aload_n (pc' := 67) rfl rfl rfl (by decide) ?_
                              refine wp_getR (r' := 102) (ci := 10) (k0 := 5) (pc' := 70) rfl rfl (by decide) (by first | assumption | rfl) (hT.get 100 rfl) ?_
                              refine wp_iload_n (pc' := 71) rfl rfl rfl ?_
                              refine wp_iaload (pc' := 72) rfl rfl (by first | assumption | rfl) (by omega) ?_
                              refine wp_i2l (pc' := 73) rfl rfl ?_
                              refine wp_lcmp (pc' := 74) rfl rfl rfl ?_
                              have hlc1 := lCmp_gt (i + n) (w1 102 r)
                              refine wp_if_gt (pc' := 77) (pt := 95) rfl rfl rfl (fun q_182 => ?_) (fun q_182 => ?_)
                              · skip
                                exfalso; omega
                              · skip
                                refine wp_iload (pc' := 79) rfl rfl rfl ?_
                                refine wp_i2l (pc' := 80) rfl rfl ?_
                                refine wp_iload (pc' := 82) rfl rfl rfl ?_
                                refine wp_i2l (pc' := 83) rfl rfl ?_
                                refine wp_ladd (pc' := 84) rfl rfl (by first | exact w64_id (by omega) (by omega) | rfl) ?_
                                refine wp_aload_n (pc' := 85) rfl rfl rfl (by decide) ?_
                                refine wp_getR (r' := 102) (ci := 10) (k0 := 5) (pc' := 88) rfl rfl (by decide) (by first | assumption | rfl) (hT.get 100 rfl) ?_
                                refine wp_iload_n (pc' := 89) rfl rfl rfl ?_
                                refine wp_iaload (pc' := 90) rfl rfl (by first | assumption | rfl) (by omega) ?_
                                refine wp_i2l (pc' := 91) rfl rfl ?_
                                refine wp_lcmp (pc' := 92) rfl rfl rfl ?_
                                have hlc2 := lCmp_gt (j + n) (w1 102 to)
                                refine wp_if_le (pc' := 95) (pt := 101) rfl rfl rfl (fun q_183 => ?_) (fun q_183 => ?_)
                                · skip
                                  refine wp_iconst (a := 0) (pc' := 102) rfl rfl rfl ?_
                                  refine wp_istore (pc' := 104) rfl rfl (Nat.le_of_ble_eq_true rfl) rfl ?_
                                  dsimp only [lset, lset2, List.set, List.getElem?_cons_zero, List.getElem?_cons_succ]
                                  refine l_Mcopy1 hT hbr hbt (by omega) (by omega) (by omega) (fun w2 hS2 hz2 => ?_) n.toNat 0 w1 (by decide) (by omega) (Same.rf _ _) (fun z a b => absurd b (by omega))
                                  have hT3 := hT.same hS2 (by decide)
                                  refine wp_iconst (a := 0) (pc' := 134) rfl rfl rfl ?_
                                  refine wp_istore (pc' := 136) rfl rfl (Nat.le_of_ble_eq_true rfl) rfl ?_
                                  dsimp only [lset, lset2, List.set, List.getElem?_cons_zero, List.getElem?_cons_succ]
                                  refine l_Mcopy2 hT3 hbr hbt (by omega) (by omega) (by omega) (fun w3 hS3 hz3 hy3 => ?_) n.toNat 0 w2 (by decide) (by omega) (Same.rf _ _) (fun z a b => absurd b (by omega)) (fun z _ => rfl)
                                  refine wp_iconst (a := 1) (pc' := 172) rfl rfl rfl ?_
                                  refine wp_ret rfl rfl rfl ?_
                                  have hed := copy_end hI hbr hbt (by omega) (by omega) (by omega) hw1 hS2 hz2 hS3 hz3 hy3
                                  exact ⟨rfl, hed.1, hed.2⟩
                                · skip
                                  exfalso; omega
                        · skip
                          exfalso; omega
                    · skip
                      exfalso; omega
                  · skip
                    rw [hv1, hw9]
                    clear hv1 hw9 v1 w9
                    dsimp only [Option.toList, List.cons_append, List.nil_append, List.append_nil]
                    refine wp_if_ne (pc' := 14) (pt := 16) rfl rfl rfl (fun q_224 => absurd q_224 (by decide)) (fun q_224 => ?_)
                    exfalso; omega
                · skip
                  rw [hv1, hw9]
                  clear hv1 hw9 v1 w9
                  dsimp only [Option.toList, List.cons_append, List.nil_append, List.append_nil]
                  refine wp_if_eq (pc' := 7) (pt := 14) rfl rfl rfl (fun q_225 => ?_) (fun q_225 => absurd (by decide) q_225)
                  exfalso; omega
              · skip
                rw [hv1, hw9]
                clear hv1 hw9 v1 w9
                dsimp only [Option.toList, List.cons_append, List.nil_append, List.append_nil]
                refine wp_if_ne (pc' := 88) (pt := 94) rfl rfl rfl (fun q_226 => absurd q_226 (by decide)) (fun q_226 => ?_)
                refine wp_aload_n (pc' := 89) rfl rfl rfl (by decide) ?_
                refine wp_iconst (a := 2) (pc' := 90) rfl rfl rfl ?_
                refine wp_call (pc' := 93) rfl rfl rfl rfl rfl ⟨Nat.le_of_ble_eq_true rfl, Nat.le_of_ble_eq_true rfl, Nat.le_of_ble_eq_true rfl, Nat.le_of_ble_eq_true rfl, Nat.le_of_ble_eq_true rfl⟩ rfl (c_VH_refuse hT (by decide)) ?_
                intro v1 w9 hq1
                rw [hq1.1, hq1.2]
                clear hq1 v1 w9
                dsimp only [Option.toList, List.cons_append, List.nil_append, List.append_nil]
                refine wp_ret rfl rfl rfl ?_
                refine ⟨_, rfl, ?_, ?_⟩
                · rw [up_ne (by decide), up_ne (by decide)]
                change WP SH _ _ _ _ _ (refW w 2) _
                have hT := refW_stc (f := 2) hT
                have e2r : refW w 2 102 r = w 102 r := by rw [refW_ne (by decide) (by decide)]
                have e2t : refW w 2 102 to = w 102 to := by rw [refW_ne (by decide) (by decide)]
                refine wp_iload_n (pc' := 1) rfl rfl rfl ?_
                refine wp_call (pc' := 4) rfl rfl rfl rfl rfl ⟨Nat.le_of_ble_eq_true rfl, Nat.le_of_ble_eq_true rfl, Nat.le_of_ble_eq_true rfl, Nat.le_of_ble_eq_true rfl, Nat.le_of_ble_eq_true rfl⟩ rfl (c_Mod_isRow) ?_
                rintro v1 w9 ⟨hw9, ⟨hv1, hc1⟩ | ⟨hv1, hc1⟩⟩
                · skip
                  rw [hv1, hw9]
                  clear hv1 hw9 v1 w9
                  dsimp only [Option.toList, List.cons_append, List.nil_append, List.append_nil]
                  refine wp_if_eq (pc' := 7) (pt := 14) rfl rfl rfl (fun q_277 => absurd q_277 (by decide)) (fun q_277 => ?_)
                  refine wp_iload_n (pc' := 8) rfl rfl rfl ?_
                  refine wp_call (pc' := 11) rfl rfl rfl rfl rfl ⟨Nat.le_of_ble_eq_true rfl, Nat.le_of_ble_eq_true rfl, Nat.le_of_ble_eq_true rfl, Nat.le_of_ble_eq_true rfl, Nat.le_of_ble_eq_true rfl⟩ rfl (c_Mod_isRow) ?_
                  rintro v1 w9 ⟨hw9, ⟨hv1, hc2⟩ | ⟨hv1, hc2⟩⟩
                  · skip
                    rw [hv1, hw9]
                    clear hv1 hw9 v1 w9
                    dsimp only [Option.toList, List.cons_append, List.nil_append, List.append_nil]
                    refine wp_if_ne (pc' := 14) (pt := 16) rfl rfl rfl (fun q_278 => ?_) (fun q_278 => absurd (by decide) q_278)
                    refine wp_iload (pc' := 18) rfl rfl rfl ?_
                    refine wp_if_ge (pc' := 21) (pt := 27) rfl rfl rfl (fun q_279 => ?_) (fun q_279 => ?_)
                    · skip
                      refine wp_aload_n (pc' := 28) rfl rfl rfl (by decide) ?_
                      refine wp_getR (r' := 102) (ci := 10) (k0 := 5) (pc' := 31) rfl rfl (by decide) (by first | assumption | rfl) (hT.get 100 rfl) ?_
                      refine wp_iload_n (pc' := 32) rfl rfl rfl ?_
                      refine wp_iaload (pc' := 33) rfl rfl (by first | assumption | rfl) (by omega) ?_
                      refine wp_if_lt (pc' := 36) (pt := 45) rfl rfl rfl (fun q_280 => ?_) (fun q_280 => ?_)
                      · skip
                        exfalso; omega
                      · skip
                        refine wp_aload_n (pc' := 37) rfl rfl rfl (by decide) ?_
                        refine wp_getR (r' := 102) (ci := 10) (k0 := 5) (pc' := 40) rfl rfl (by decide) (by first | assumption | rfl) (hT.get 100 rfl) ?_
                        refine wp_iload_n (pc' := 41) rfl rfl rfl ?_
                        refine wp_iaload (pc' := 42) rfl rfl (by first | assumption | rfl) (by omega) ?_
                        refine wp_if_ge (pc' := 45) (pt := 51) rfl rfl rfl (fun q_281 => ?_) (fun q_281 => ?_)
                        · skip
                          refine wp_iload_n (pc' := 52) rfl rfl rfl ?_
                          refine wp_if_lt (pc' := 55) (pt := 95) rfl rfl rfl (fun q_282 => ?_) (fun q_282 => ?_)
                          · skip
                            refine wp_aload_n (pc' := 96) rfl rfl rfl (by decide) ?_
                            refine wp_iconst (a := 2) (pc' := 97) rfl rfl rfl ?_
                            refine wp_call (pc' := 100) rfl rfl rfl rfl rfl ⟨Nat.le_of_ble_eq_true rfl, Nat.le_of_ble_eq_true rfl, Nat.le_of_ble_eq_true rfl, Nat.le_of_ble_eq_true rfl, Nat.le_of_ble_eq_true rfl⟩ rfl (c_Mod_meets hT (by decide)) ?_
                            intro v1 w9 hq1
                            rw [hq1.1, hq1.2]
                            clear hq1 v1 w9
                            dsimp only [Option.toList, List.cons_append, List.nil_append, List.append_nil]
                            refine wp_ret rfl rfl rfl ?_
                            first
                            | (exfalso; omega)
                            | exact ⟨rfl, rfl, hI⟩
                            | exact ⟨rfl, by rw [up_ne (by decide), up_ne (by decide)]; rfl, refW_inv hI (by decide)⟩
                          · skip
                            refine wp_iload (pc' := 57) rfl rfl rfl ?_
                            refine wp_if_lt (pc' := 60) (pt := 95) rfl rfl rfl (fun q_283 => ?_) (fun q_283 => ?_)
                            · skip
                              refine wp_aload_n (pc' := 96) rfl rfl rfl (by decide) ?_
                              refine wp_iconst (a := 2) (pc' := 97) rfl rfl rfl ?_
                              refine wp_call (pc' := 100) rfl rfl rfl rfl rfl ⟨Nat.le_of_ble_eq_true rfl, Nat.le_of_ble_eq_true rfl, Nat.le_of_ble_eq_true rfl, Nat.le_of_ble_eq_true rfl, Nat.le_of_ble_eq_true rfl⟩ rfl (c_Mod_meets hT (by decide)) ?_
                              intro v1 w9 hq1
                              rw [hq1.1, hq1.2]
                              clear hq1 v1 w9
                              dsimp only [Option.toList, List.cons_append, List.nil_append, List.append_nil]
                              refine wp_ret rfl rfl rfl ?_
                              first
                              | (exfalso; omega)
                              | exact ⟨rfl, rfl, hI⟩
                              | exact ⟨rfl, by rw [up_ne (by decide), up_ne (by decide)]; rfl, refW_inv hI (by decide)⟩
                            · skip
                              refine wp_iload_n (pc' := 61) rfl rfl rfl ?_
                              refine wp_i2l (pc' := 62) rfl rfl ?_
                              refine wp_iload (pc' := 64) rfl rfl rfl ?_
                              refine wp_i2l (pc' := 65) rfl rfl ?_
                              refine wp_ladd (pc' := 66) rfl rfl (by first | exact w64_id (by omega) (by omega) | rfl) ?_
                              refine wp_aload_n (pc' := 67) rfl rfl rfl (by decide) ?_
                              refine wp_getR (r' := 102) (ci := 10) (k0 := 5) (pc' := 70) rfl rfl (by decide) (by first | assumption | rfl) (hT.get 100 rfl) ?_
                              refine wp_iload_n (pc' := 71) rfl rfl rfl ?_
                              refine wp_iaload (pc' := 72) rfl rfl (by first | assumption | rfl) (by omega) ?_
                              refine wp_i2l (pc' := 73) rfl rfl ?_
                              refine wp_lcmp (pc' := 74) rfl rfl rfl ?_
                              have hlc1 := lCmp_gt (i + n) ((refW w 2) 102 r)
                              refine wp_if_gt (pc' := 77) (pt := 95) rfl rfl rfl (fun q_284 => ?_) (fun q_284 => ?_)
                              · skip
                                refine wp_aload_n (pc' := 96) rfl rfl rfl (by decide) ?_
                                refine wp_iconst (a := 2) (pc' := 97) rfl rfl rfl ?_
                                refine wp_call (pc' := 100) rfl rfl rfl rfl rfl ⟨Nat.le_of_ble_eq_true rfl, Nat.le_of_ble_eq_true rfl, Nat.le_of_ble_eq_true rfl, Nat.le_of_ble_eq_true rfl, Nat.le_of_ble_eq_true rfl⟩ rfl (c_Mod_meets hT (by decide)) ?_
                                intro v1 w9 hq1
                                rw [hq1.1, hq1.2]
                                clear hq1 v1 w9
                                dsimp only [Option.toList, List.cons_append, List.nil_append, List.append_nil]
                                refine wp_ret rfl rfl rfl ?_
                                first
                                | (exfalso; omega)
                                | exact ⟨rfl, rfl, hI⟩
                                | exact ⟨rfl, by rw [up_ne (by decide), up_ne (by decide)]; rfl, refW_inv hI (by decide)⟩
                              · skip
                                refine wp_iload (pc' := 79) rfl rfl rfl ?_
                                refine wp_i2l (pc' := 80) rfl rfl ?_
                                refine wp_iload (pc' := 82) rfl rfl rfl ?_
                                refine wp_i2l (pc' := 83) rfl rfl ?_
                                refine wp_ladd (pc' := 84) rfl rfl (by first | exact w64_id (by omega) (by omega) | rfl) ?_
                                refine wp_aload_n (pc' := 85) rfl rfl rfl (by decide) ?_
                                refine wp_getR (r' := 102) (ci := 10) (k0 := 5) (pc' := 88) rfl rfl (by decide) (by first | assumption | rfl) (hT.get 100 rfl) ?_
                                refine wp_iload_n (pc' := 89) rfl rfl rfl ?_
                                refine wp_iaload (pc' := 90) rfl rfl (by first | assumption | rfl) (by omega) ?_
                                refine wp_i2l (pc' := 91) rfl rfl ?_
                                refine wp_lcmp (pc' := 92) rfl rfl rfl ?_
                                have hlc2 := lCmp_gt (j + n) ((refW w 2) 102 to)
                                refine wp_if_le (pc' := 95) (pt := 101) rfl rfl rfl (fun q_285 => ?_) (fun q_285 => ?_)
                                · skip
                                  exfalso; omega
                                · skip
                                  refine wp_aload_n (pc' := 96) rfl rfl rfl (by decide) ?_
                                  refine wp_iconst (a := 2) (pc' := 97) rfl rfl rfl ?_
                                  refine wp_call (pc' := 100) rfl rfl rfl rfl rfl ⟨Nat.le_of_ble_eq_true rfl, Nat.le_of_ble_eq_true rfl, Nat.le_of_ble_eq_true rfl, Nat.le_of_ble_eq_true rfl, Nat.le_of_ble_eq_true rfl⟩ rfl (c_Mod_meets hT (by decide)) ?_
                                  intro v1 w9 hq1
                                  rw [hq1.1, hq1.2]
                                  clear hq1 v1 w9
                                  dsimp only [Option.toList, List.cons_append, List.nil_append, List.append_nil]
                                  refine wp_ret rfl rfl rfl ?_
                                  first
                                  | (exfalso; omega)
                                  | exact ⟨rfl, rfl, hI⟩
                                  | exact ⟨rfl, by rw [up_ne (by decide), up_ne (by decide)]; rfl, refW_inv hI (by decide)⟩
                        · skip
                          exfalso; omega
                    · skip
                      exfalso; omega
                  · skip
                    rw [hv1, hw9]
                    clear hv1 hw9 v1 w9
                    dsimp only [Option.toList, List.cons_append, List.nil_append, List.append_nil]
                    refine wp_if_ne (pc' := 14) (pt := 16) rfl rfl rfl (fun q_286 => absurd q_286 (by decide)) (fun q_286 => ?_)
                    exfalso; omega
                · skip
                  rw [hv1, hw9]
                  clear hv1 hw9 v1 w9
                  dsimp only [Option.toList, List.cons_append, List.nil_append, List.append_nil]
                  refine wp_if_eq (pc' := 7) (pt := 14) rfl rfl rfl (fun q_287 => ?_) (fun q_287 => absurd (by decide) q_287)
                  exfalso; omega
            · skip
              rw [hv1, hw9]
              clear hv1 hw9 v1 w9
              dsimp only [Option.toList, List.cons_append, List.nil_append, List.append_nil]
              refine wp_if_eq (pc' := 72) (pt := 88) rfl rfl rfl (fun q_288 => ?_) (fun q_288 => absurd (by decide) q_288)
              refine wp_aload_n (pc' := 89) rfl rfl rfl (by decide) ?_
              refine wp_iconst (a := 2) (pc' := 90) rfl rfl rfl ?_
              refine wp_call (pc' := 93) rfl rfl rfl rfl rfl ⟨Nat.le_of_ble_eq_true rfl, Nat.le_of_ble_eq_true rfl, Nat.le_of_ble_eq_true rfl, Nat.le_of_ble_eq_true rfl, Nat.le_of_ble_eq_true rfl⟩ rfl (c_VH_refuse hT (by decide)) ?_
              intro v1 w9 hq1
              rw [hq1.1, hq1.2]
              clear hq1 v1 w9
              dsimp only [Option.toList, List.cons_append, List.nil_append, List.append_nil]
              refine wp_ret rfl rfl rfl ?_
              refine ⟨_, rfl, ?_, ?_⟩
              · rw [up_ne (by decide), up_ne (by decide)]
              change WP SH _ _ _ _ _ (refW w 2) _
              have hT := refW_stc (f := 2) hT
              have e2r : refW w 2 102 r = w 102 r := by rw [refW_ne (by decide) (by decide)]
              have e2t : refW w 2 102 to = w 102 to := by rw [refW_ne (by decide) (by decide)]
              refine wp_iload_n (pc' := 1) rfl rfl rfl ?_
              refine wp_call (pc' := 4) rfl rfl rfl rfl rfl ⟨Nat.le_of_ble_eq_true rfl, Nat.le_of_ble_eq_true rfl, Nat.le_of_ble_eq_true rfl, Nat.le_of_ble_eq_true rfl, Nat.le_of_ble_eq_true rfl⟩ rfl (c_Mod_isRow) ?_
              rintro v1 w9 ⟨hw9, ⟨hv1, hc1⟩ | ⟨hv1, hc1⟩⟩
              · skip
                rw [hv1, hw9]
                clear hv1 hw9 v1 w9
                dsimp only [Option.toList, List.cons_append, List.nil_append, List.append_nil]
                refine wp_if_eq (pc' := 7) (pt := 14) rfl rfl rfl (fun q_339 => absurd q_339 (by decide)) (fun q_339 => ?_)
                refine wp_iload_n (pc' := 8) rfl rfl rfl ?_
                refine wp_call (pc' := 11) rfl rfl rfl rfl rfl ⟨Nat.le_of_ble_eq_true rfl, Nat.le_of_ble_eq_true rfl, Nat.le_of_ble_eq_true rfl, Nat.le_of_ble_eq_true rfl, Nat.le_of_ble_eq_true rfl⟩ rfl (c_Mod_isRow) ?_
                rintro v1 w9 ⟨hw9, ⟨hv1, hc2⟩ | ⟨hv1, hc2⟩⟩
                · skip
                  rw [hv1, hw9]
                  clear hv1 hw9 v1 w9
                  dsimp only [Option.toList, List.cons_append, List.nil_append, List.append_nil]
                  refine wp_if_ne (pc' := 14) (pt := 16) rfl rfl rfl (fun q_340 => ?_) (fun q_340 => absurd (by decide) q_340)
                  refine wp_iload (pc' := 18) rfl rfl rfl ?_
                  refine wp_if_ge (pc' := 21) (pt := 27) rfl rfl rfl (fun q_341 => ?_) (fun q_341 => ?_)
                  · skip
                    refine wp_aload_n (pc' := 28) rfl rfl rfl (by decide) ?_
                    refine wp_getR (r' := 102) (ci := 10) (k0 := 5) (pc' := 31) rfl rfl (by decide) (by first | assumption | rfl) (hT.get 100 rfl) ?_
                    refine wp_iload_n (pc' := 32) rfl rfl rfl ?_
                    refine wp_iaload (pc' := 33) rfl rfl (by first | assumption | rfl) (by omega) ?_
                    refine wp_if_lt (pc' := 36) (pt := 45) rfl rfl rfl (fun q_342 => ?_) (fun q_342 => ?_)
                    · skip
                      exfalso; omega
                    · skip
                      refine wp_aload_n (pc' := 37) rfl rfl rfl (by decide) ?_
                      refine wp_getR (r' := 102) (ci := 10) (k0 := 5) (pc' := 40) rfl rfl (by decide) (by first | assumption | rfl) (hT.get 100 rfl) ?_
                      refine wp_iload_n (pc' := 41) rfl rfl rfl ?_
                      refine wp_iaload (pc' := 42) rfl rfl (by first | assumption | rfl) (by omega) ?_
                      refine wp_if_ge (pc' := 45) (pt := 51) rfl rfl rfl (fun q_343 => ?_) (fun q_343 => ?_)
                      · skip
                        refine wp_iload_n (pc' := 52) rfl rfl rfl ?_
                        refine wp_if_lt (pc' := 55) (pt := 95) rfl rfl rfl (fun q_344 => ?_) (fun q_344 => ?_)
                        · skip
                          refine wp_aload_n (pc' := 96) rfl rfl rfl (by decide) ?_
                          refine wp_iconst (a := 2) (pc' := 97) rfl rfl rfl ?_
                          refine wp_call (pc' := 100) rfl rfl rfl rfl rfl ⟨Nat.le_of_ble_eq_true rfl, Nat.le_of_ble_eq_true rfl, Nat.le_of_ble_eq_true rfl, Nat.le_of_ble_eq_true rfl, Nat.le_of_ble_eq_true rfl⟩ rfl (c_Mod_meets hT (by decide)) ?_
                          intro v1 w9 hq1
                          rw [hq1.1, hq1.2]
                          clear hq1 v1 w9
                          dsimp only [Option.toList, List.cons_append, List.nil_append, List.append_nil]
                          refine wp_ret rfl rfl rfl ?_
                          first
                          | (exfalso; omega)
                          | exact ⟨rfl, rfl, hI⟩
                          | exact ⟨rfl, by rw [up_ne (by decide), up_ne (by decide)]; rfl, refW_inv hI (by decide)⟩
                        · skip
                          refine wp_iload (pc' := 57) rfl rfl rfl ?_
                          refine wp_if_lt (pc' := 60) (pt := 95) rfl rfl rfl (fun q_345 => ?_) (fun q_345 => ?_)
                          · skip
                            refine wp_aload_n (pc' := 96) rfl rfl rfl (by decide) ?_
                            refine wp_iconst (a := 2) (pc' := 97) rfl rfl rfl ?_
                            refine wp_call (pc' := 100) rfl rfl rfl rfl rfl ⟨Nat.le_of_ble_eq_true rfl, Nat.le_of_ble_eq_true rfl, Nat.le_of_ble_eq_true rfl, Nat.le_of_ble_eq_true rfl, Nat.le_of_ble_eq_true rfl⟩ rfl (c_Mod_meets hT (by decide)) ?_
                            intro v1 w9 hq1
                            rw [hq1.1, hq1.2]
                            clear hq1 v1 w9
                            dsimp only [Option.toList, List.cons_append, List.nil_append, List.append_nil]
                            refine wp_ret rfl rfl rfl ?_
                            first
                            | (exfalso; omega)
                            | exact ⟨rfl, rfl, hI⟩
                            | exact ⟨rfl, by rw [up_ne (by decide), up_ne (by decide)]; rfl, refW_inv hI (by decide)⟩
                          · skip
                            refine wp_iload_n (pc' := 61) rfl rfl rfl ?_
                            refine wp_i2l (pc' := 62) rfl rfl ?_
                            refine wp_iload (pc' := 64) rfl rfl rfl ?_
                            refine wp_i2l (pc' := 65) rfl rfl ?_
                            refine wp_ladd (pc' := 66) rfl rfl (by first | exact w64_id (by omega) (by omega) | rfl) ?_
                            refine wp_aload_n (pc' := 67) rfl rfl rfl (by decide) ?_
                            refine wp_getR (r' := 102) (ci := 10) (k0 := 5) (pc' := 70) rfl rfl (by decide) (by first | assumption | rfl) (hT.get 100 rfl) ?_
                            refine wp_iload_n (pc' := 71) rfl rfl rfl ?_
                            refine wp_iaload (pc' := 72) rfl rfl (by first | assumption | rfl) (by omega) ?_
                            refine wp_i2l (pc' := 73) rfl rfl ?_
                            refine wp_lcmp (pc' := 74) rfl rfl rfl ?_
                            have hlc1 := lCmp_gt (i + n) ((refW w 2) 102 r)
                            refine wp_if_gt (pc' := 77) (pt := 95) rfl rfl rfl (fun q_346 => ?_) (fun q_346 => ?_)
                            · skip
                              refine wp_aload_n (pc' := 96) rfl rfl rfl (by decide) ?_
                              refine wp_iconst (a := 2) (pc' := 97) rfl rfl rfl ?_
                              refine wp_call (pc' := 100) rfl rfl rfl rfl rfl ⟨Nat.le_of_ble_eq_true rfl, Nat.le_of_ble_eq_true rfl, Nat.le_of_ble_eq_true rfl, Nat.le_of_ble_eq_true rfl, Nat.le_of_ble_eq_true rfl⟩ rfl (c_Mod_meets hT (by decide)) ?_
                              intro v1 w9 hq1
                              rw [hq1.1, hq1.2]
                              clear hq1 v1 w9
                              dsimp only [Option.toList, List.cons_append, List.nil_append, List.append_nil]
                              refine wp_ret rfl rfl rfl ?_
                              first
                              | (exfalso; omega)
                              | exact ⟨rfl, rfl, hI⟩
                              | exact ⟨rfl, by rw [up_ne (by decide), up_ne (by decide)]; rfl, refW_inv hI (by decide)⟩
                            · skip
                              refine wp_iload (pc' := 79) rfl rfl rfl ?_
                              refine wp_i2l (pc' := 80) rfl rfl ?_
                              refine wp_iload (pc' := 82) rfl rfl rfl ?_
                              refine wp_i2l (pc' := 83) rfl rfl ?_
                              refine wp_ladd (pc' := 84) rfl rfl (by first | exact w64_id (by omega) (by omega) | rfl) ?_
                              refine wp_aload_n (pc' := 85) rfl rfl rfl (by decide) ?_
                              refine wp_getR (r' := 102) (ci := 10) (k0 := 5) (pc' := 88) rfl rfl (by decide) (by first | assumption | rfl) (hT.get 100 rfl) ?_
                              refine wp_iload_n (pc' := 89) rfl rfl rfl ?_
                              refine wp_iaload (pc' := 90) rfl rfl (by first | assumption | rfl) (by omega) ?_
                              refine wp_i2l (pc' := 91) rfl rfl ?_
                              refine wp_lcmp (pc' := 92) rfl rfl rfl ?_
                              have hlc2 := lCmp_gt (j + n) ((refW w 2) 102 to)
                              refine wp_if_le (pc' := 95) (pt := 101) rfl rfl rfl (fun q_347 => ?_) (fun q_347 => ?_)
                              · skip
                                exfalso; omega
                              · skip
                                refine wp_aload_n (pc' := 96) rfl rfl rfl (by decide) ?_
                                refine wp_iconst (a := 2) (pc' := 97) rfl rfl rfl ?_
                                refine wp_call (pc' := 100) rfl rfl rfl rfl rfl ⟨Nat.le_of_ble_eq_true rfl, Nat.le_of_ble_eq_true rfl, Nat.le_of_ble_eq_true rfl, Nat.le_of_ble_eq_true rfl, Nat.le_of_ble_eq_true rfl⟩ rfl (c_Mod_meets hT (by decide)) ?_
                                intro v1 w9 hq1
                                rw [hq1.1, hq1.2]
                                clear hq1 v1 w9
                                dsimp only [Option.toList, List.cons_append, List.nil_append, List.append_nil]
                                refine wp_ret rfl rfl rfl ?_
                                first
                                | (exfalso; omega)
                                | exact ⟨rfl, rfl, hI⟩
                                | exact ⟨rfl, by rw [up_ne (by decide), up_ne (by decide)]; rfl, refW_inv hI (by decide)⟩
                      · skip
                        exfalso; omega
                  · skip
                    exfalso; omega
                · skip
                  rw [hv1, hw9]
                  clear hv1 hw9 v1 w9
                  dsimp only [Option.toList, List.cons_append, List.nil_append, List.append_nil]
                  refine wp_if_ne (pc' := 14) (pt := 16) rfl rfl rfl (fun q_348 => absurd q_348 (by decide)) (fun q_348 => ?_)
                  exfalso; omega
              · skip
                rw [hv1, hw9]
                clear hv1 hw9 v1 w9
                dsimp only [Option.toList, List.cons_append, List.nil_append, List.append_nil]
                refine wp_if_eq (pc' := 7) (pt := 14) rfl rfl rfl (fun q_349 => ?_) (fun q_349 => absurd (by decide) q_349)
                exfalso; omega
      · skip
        refine wp_aload_n (pc' := 22) rfl rfl rfl (by decide) ?_
        refine wp_iconst (a := 5) (pc' := 23) rfl rfl rfl ?_
        refine wp_call (pc' := 26) rfl rfl rfl rfl rfl ⟨Nat.le_of_ble_eq_true rfl, Nat.le_of_ble_eq_true rfl, Nat.le_of_ble_eq_true rfl, Nat.le_of_ble_eq_true rfl, Nat.le_of_ble_eq_true rfl⟩ rfl (c_VH_refuse hT (by decide)) ?_
        intro v1 w9 hq1
        rw [hq1.1, hq1.2]
        clear hq1 v1 w9
        dsimp only [Option.toList, List.cons_append, List.nil_append, List.append_nil]
        refine wp_ret rfl rfl rfl ?_
        refine ⟨_, rfl, ?_, ?_⟩
        · rw [up_ne (by decide), up_ne (by decide)]
        change WP SH _ _ _ _ _ (refW w 5) _
        have hT := refW_stc (f := 5) hT
        have e2r : refW w 5 102 r = w 102 r := by rw [refW_ne (by decide) (by decide)]
        have e2t : refW w 5 102 to = w 102 to := by rw [refW_ne (by decide) (by decide)]
        refine wp_iload_n (pc' := 1) rfl rfl rfl ?_
        refine wp_call (pc' := 4) rfl rfl rfl rfl rfl ⟨Nat.le_of_ble_eq_true rfl, Nat.le_of_ble_eq_true rfl, Nat.le_of_ble_eq_true rfl, Nat.le_of_ble_eq_true rfl, Nat.le_of_ble_eq_true rfl⟩ rfl (c_Mod_isRow) ?_
        rintro v1 w9 ⟨hw9, ⟨hv1, hc1⟩ | ⟨hv1, hc1⟩⟩
        · skip
          rw [hv1, hw9]
          clear hv1 hw9 v1 w9
          dsimp only [Option.toList, List.cons_append, List.nil_append, List.append_nil]
          refine wp_if_eq (pc' := 7) (pt := 14) rfl rfl rfl (fun q_400 => absurd q_400 (by decide)) (fun q_400 => ?_)
          refine wp_iload_n (pc' := 8) rfl rfl rfl ?_
          refine wp_call (pc' := 11) rfl rfl rfl rfl rfl ⟨Nat.le_of_ble_eq_true rfl, Nat.le_of_ble_eq_true rfl, Nat.le_of_ble_eq_true rfl, Nat.le_of_ble_eq_true rfl, Nat.le_of_ble_eq_true rfl⟩ rfl (c_Mod_isRow) ?_
          rintro v1 w9 ⟨hw9, ⟨hv1, hc2⟩ | ⟨hv1, hc2⟩⟩
          · skip
            rw [hv1, hw9]
            clear hv1 hw9 v1 w9
            dsimp only [Option.toList, List.cons_append, List.nil_append, List.append_nil]
            refine wp_if_ne (pc' := 14) (pt := 16) rfl rfl rfl (fun q_401 => ?_) (fun q_401 => absurd (by decide) q_401)
            refine wp_iload (pc' := 18) rfl rfl rfl ?_
            refine wp_if_ge (pc' := 21) (pt := 27) rfl rfl rfl (fun q_402 => ?_) (fun q_402 => ?_)
            · skip
              exfalso; omega
            · skip
              refine wp_aload_n (pc' := 22) rfl rfl rfl (by decide) ?_
              refine wp_iconst (a := 5) (pc' := 23) rfl rfl rfl ?_
              refine wp_call (pc' := 26) rfl rfl rfl rfl rfl ⟨Nat.le_of_ble_eq_true rfl, Nat.le_of_ble_eq_true rfl, Nat.le_of_ble_eq_true rfl, Nat.le_of_ble_eq_true rfl, Nat.le_of_ble_eq_true rfl⟩ rfl (c_Mod_meets hT (by decide)) ?_
              intro v1 w9 hq1
              rw [hq1.1, hq1.2]
              clear hq1 v1 w9
              dsimp only [Option.toList, List.cons_append, List.nil_append, List.append_nil]
              refine wp_ret rfl rfl rfl ?_
              first
              | (exfalso; omega)
              | exact ⟨rfl, rfl, hI⟩
              | exact ⟨rfl, by rw [up_ne (by decide), up_ne (by decide)]; rfl, refW_inv hI (by decide)⟩
          · skip
            rw [hv1, hw9]
            clear hv1 hw9 v1 w9
            dsimp only [Option.toList, List.cons_append, List.nil_append, List.append_nil]
            refine wp_if_ne (pc' := 14) (pt := 16) rfl rfl rfl (fun q_403 => absurd q_403 (by decide)) (fun q_403 => ?_)
            exfalso; omega
        · skip
          rw [hv1, hw9]
          clear hv1 hw9 v1 w9
          dsimp only [Option.toList, List.cons_append, List.nil_append, List.append_nil]
          refine wp_if_eq (pc' := 7) (pt := 14) rfl rfl rfl (fun q_404 => ?_) (fun q_404 => absurd (by decide) q_404)
          exfalso; omega
    · skip
      rw [hv1, hw9]
      clear hv1 hw9 v1 w9
      dsimp only [Option.toList, List.cons_append, List.nil_append, List.append_nil]
      refine wp_if_ne (pc' := 14) (pt := 16) rfl rfl rfl (fun q_405 => absurd q_405 (by decide)) (fun q_405 => ?_)
      refine wp_iconst (a := -1) (pc' := 15) rfl rfl rfl ?_
      refine wp_ret rfl rfl rfl ?_
      refine ⟨_, rfl, ?_, ?_⟩
      · rfl
      refine wp_iload_n (pc' := 1) rfl rfl rfl ?_
      refine wp_call (pc' := 4) rfl rfl rfl rfl rfl ⟨Nat.le_of_ble_eq_true rfl, Nat.le_of_ble_eq_true rfl, Nat.le_of_ble_eq_true rfl, Nat.le_of_ble_eq_true rfl, Nat.le_of_ble_eq_true rfl⟩ rfl (c_Mod_isRow) ?_
      rintro v1 w9 ⟨hw9, ⟨hv1, hc1⟩ | ⟨hv1, hc1⟩⟩
      · skip
        rw [hv1, hw9]
        clear hv1 hw9 v1 w9
        dsimp only [Option.toList, List.cons_append, List.nil_append, List.append_nil]
        refine wp_if_eq (pc' := 7) (pt := 14) rfl rfl rfl (fun q_456 => absurd q_456 (by decide)) (fun q_456 => ?_)
        refine wp_iload_n (pc' := 8) rfl rfl rfl ?_
        refine wp_call (pc' := 11) rfl rfl rfl rfl rfl ⟨Nat.le_of_ble_eq_true rfl, Nat.le_of_ble_eq_true rfl, Nat.le_of_ble_eq_true rfl, Nat.le_of_ble_eq_true rfl, Nat.le_of_ble_eq_true rfl⟩ rfl (c_Mod_isRow) ?_
        rintro v1 w9 ⟨hw9, ⟨hv1, hc2⟩ | ⟨hv1, hc2⟩⟩
        · skip
          rw [hv1, hw9]
          clear hv1 hw9 v1 w9
          dsimp only [Option.toList, List.cons_append, List.nil_append, List.append_nil]
          refine wp_if_ne (pc' := 14) (pt := 16) rfl rfl rfl (fun q_457 => ?_) (fun q_457 => absurd (by decide) q_457)
          exfalso; omega
        · skip
          rw [hv1, hw9]
          clear hv1 hw9 v1 w9
          dsimp only [Option.toList, List.cons_append, List.nil_append, List.append_nil]
          refine wp_if_ne (pc' := 14) (pt := 16) rfl rfl rfl (fun q_458 => absurd q_458 (by decide)) (fun q_458 => ?_)
          refine wp_iconst (a := -1) (pc' := 15) rfl rfl rfl ?_
          refine wp_ret rfl rfl rfl ?_
          first
          | (exfalso; omega)
          | exact ⟨rfl, rfl, hI⟩
          | exact ⟨rfl, by rw [up_ne (by decide), up_ne (by decide)]; rfl, refW_inv hI (by decide)⟩
      · skip
        rw [hv1, hw9]
        clear hv1 hw9 v1 w9
        dsimp only [Option.toList, List.cons_append, List.nil_append, List.append_nil]
        refine wp_if_eq (pc' := 7) (pt := 14) rfl rfl rfl (fun q_459 => ?_) (fun q_459 => absurd (by decide) q_459)
        refine wp_iconst (a := -1) (pc' := 15) rfl rfl rfl ?_
        refine wp_ret rfl rfl rfl ?_
        first
        | (exfalso; omega)
        | exact ⟨rfl, rfl, hI⟩
        | exact ⟨rfl, by rw [up_ne (by decide), up_ne (by decide)]; rfl, refW_inv hI (by decide)⟩
  · skip
    rw [hv1, hw9]
    clear hv1 hw9 v1 w9
    dsimp only [Option.toList, List.cons_append, List.nil_append, List.append_nil]
    refine wp_if_eq (pc' := 7) (pt := 14) rfl rfl rfl (fun q_460 => ?_) (fun q_460 => absurd (by decide) q_460)
    refine wp_iconst (a := -1) (pc' := 15) rfl rfl rfl ?_
    refine wp_ret rfl rfl rfl ?_
    refine ⟨_, rfl, ?_, ?_⟩
    · rfl
    refine wp_iload_n (pc' := 1) rfl rfl rfl ?_
    refine wp_call (pc' := 4) rfl rfl rfl rfl rfl ⟨Nat.le_of_ble_eq_true rfl, Nat.le_of_ble_eq_true rfl, Nat.le_of_ble_eq_true rfl, Nat.le_of_ble_eq_true rfl, Nat.le_of_ble_eq_true rfl⟩ rfl (c_Mod_isRow) ?_
    rintro v1 w9 ⟨hw9, ⟨hv1, hc1⟩ | ⟨hv1, hc1⟩⟩
    · skip
      rw [hv1, hw9]
      clear hv1 hw9 v1 w9
      dsimp only [Option.toList, List.cons_append, List.nil_append, List.append_nil]
      refine wp_if_eq (pc' := 7) (pt := 14) rfl rfl rfl (fun q_511 => absurd q_511 (by decide)) (fun q_511 => ?_)
      refine wp_iload_n (pc' := 8) rfl rfl rfl ?_
      refine wp_call (pc' := 11) rfl rfl rfl rfl rfl ⟨Nat.le_of_ble_eq_true rfl, Nat.le_of_ble_eq_true rfl, Nat.le_of_ble_eq_true rfl, Nat.le_of_ble_eq_true rfl, Nat.le_of_ble_eq_true rfl⟩ rfl (c_Mod_isRow) ?_
      rintro v1 w9 ⟨hw9, ⟨hv1, hc2⟩ | ⟨hv1, hc2⟩⟩
      · skip
        rw [hv1, hw9]
        clear hv1 hw9 v1 w9
        dsimp only [Option.toList, List.cons_append, List.nil_append, List.append_nil]
        refine wp_if_ne (pc' := 14) (pt := 16) rfl rfl rfl (fun q_512 => ?_) (fun q_512 => absurd (by decide) q_512)
        exfalso; omega
      · skip
        rw [hv1, hw9]
        clear hv1 hw9 v1 w9
        dsimp only [Option.toList, List.cons_append, List.nil_append, List.append_nil]
        refine wp_if_ne (pc' := 14) (pt := 16) rfl rfl rfl (fun q_513 => absurd q_513 (by decide)) (fun q_513 => ?_)
        refine wp_iconst (a := -1) (pc' := 15) rfl rfl rfl ?_
        refine wp_ret rfl rfl rfl ?_
        first
        | (exfalso; omega)
        | exact ⟨rfl, rfl, hI⟩
        | exact ⟨rfl, by rw [up_ne (by decide), up_ne (by decide)]; rfl, refW_inv hI (by decide)⟩
    · skip
      rw [hv1, hw9]
      clear hv1 hw9 v1 w9
      dsimp only [Option.toList, List.cons_append, List.nil_append, List.append_nil]
      refine wp_if_eq (pc' := 7) (pt := 14) rfl rfl rfl (fun q_514 => ?_) (fun q_514 => absurd (by decide) q_514)
      refine wp_iconst (a := -1) (pc' := 15) rfl rfl rfl ?_
      refine wp_ret rfl rfl rfl ?_
      first
      | (exfalso; omega)
      | exact ⟨rfl, rfl, hI⟩
      | exact ⟨rfl, by rw [up_ne (by decide), up_ne (by decide)]; rfl, refW_inv hI (by decide)⟩
