/-! the calls on rows -/
set_option maxRecDepth 20000 in
set_option maxHeartbeats 4000000 in
theorem l_Mrow {w : Hp} {d : Nat} {r n : Int} (hT0 : Stc w) (hr : 0 ≤ r ∧ r < 6) : ∀ (k : Nat) (i : Int) (w2 : Hp), 0 ≤ i → i + k = 40 → Same w w2 [103] → (∀ j : Int, 0 ≤ j → j < i → w2 103 (40 * r + j) = 0) → (∀ z : Int, z < 40 * r ∨ 40 * r + 40 ≤ z → w2 103 z = w 103 z) → WP SH d 150 34 [some (vR 100), some (vI r), some (vI n), some (vI i)] [] w2 (fun v w' => v = some (vI n) ∧ Same w w' [103] ∧ (∀ j : Int, 0 ≤ j → j < 40 → w' 103 (40 * r + j) = 0) ∧ (∀ z : Int, z < 40 * r ∨ 40 * r + 40 ≤ z → w' 103 z = w 103 z)) := by
  intro k
  induction k with
  | zero =>
    intro i w2 hi0 hik hS hz ho
    have hT := hT0.same hS (by decide)
    refine wp_iload_n (pc' := 35) rfl rfl rfl ?_
    refine wp_bipush (a := 40) (pc' := 37) rfl rfl rfl ?_
    refine wp_icmp_ge (pc' := 40) (pt := 58) rfl rfl rfl (fun q_1 => ?_) (fun q_1 => ?_)
    · skip
      refine wp_iload_n (pc' := 59) rfl rfl rfl ?_
      refine wp_ret rfl rfl rfl ?_
      exact ⟨rfl, hS, fun j a b => hz j a (by omega), ho⟩
    · skip
      exfalso; omega
  | succ k ih =>
    intro i w2 hi0 hik hS hz ho
    have hT := hT0.same hS (by decide)
    refine wp_iload_n (pc' := 35) rfl rfl rfl ?_
    refine wp_bipush (a := 40) (pc' := 37) rfl rfl rfl ?_
    refine wp_icmp_ge (pc' := 40) (pt := 58) rfl rfl rfl (fun q_1 => ?_) (fun q_1 => ?_)
    · skip
      exfalso; omega
    · skip
      refine wp_aload_n (pc' := 41) rfl rfl rfl (by decide) ?_
      refine wp_getR (r' := 103) (ci := 10) (k0 := 6) (pc' := 44) rfl rfl (by decide) (by first | assumption | rfl) (hT.get 101 rfl) ?_
      refine wp_bipush (a := 40) (pc' := 46) rfl rfl rfl ?_
      refine wp_iload_n (pc' := 47) rfl rfl rfl ?_
      refine wp_imul (pc' := 48) rfl rfl (by first | exact w32_id (by omega) (by omega) | rfl) ?_
      refine wp_iload_n (pc' := 49) rfl rfl rfl ?_
      refine wp_iadd (pc' := 50) rfl rfl (by first | exact w32_id (by omega) (by omega) | rfl) ?_
      refine wp_iconst (a := 0) (pc' := 51) rfl rfl rfl ?_
      refine wp_iastore (pc' := 52) rfl rfl (by first | assumption | rfl) (by omega) ?_
      refine wp_iinc (pc' := 55) rfl rfl rfl (inc_id (by omega) (by omega)) rfl ?_
      dsimp only [lset, lset2, List.set, List.getElem?_cons_zero, List.getElem?_cons_succ]
      refine wp_goto (pc' := 34) rfl rfl ?_
      refine ih _ _ (by omega) (by omega) (hS.put (by decide)) (fun j a b => ?_) (fun z hzz => ?_)
      · by_cases hj : 40 * r + j = 40 * r + i
        · rw [hj, up_eq]
        · rw [up_at hj]; exact hz j a (by omega)
      · rw [up_at (by omega)]; exact ho z hzz
set_option maxRecDepth 20000 in
set_option maxHeartbeats 4000000 in
theorem p_row {w : Hp} {d : Nat} {r : Int} {n : Int} (hI : Inv w) : WP SH (d + 9) 80 0 [some (vR 0), some (vI r), some (vI n)] [] w (fun v0 w1 => ∃ a, v0 = some (vI a) ∧ w1 (-2) = w (-2) ∧ WP SH (d + 9) 150 0 [some (vR 100), some (vI r), some (vI n), none] [] w1 (fun v2 w2 => v2 = some (vI a) ∧ w2 (-2) = w1 (-2) ∧ Inv w2)) := by
  obtain ⟨hT, hRO, hIF, hITo, hIR, hIT, hIL, hIK⟩ := id hI
  refine wp_iload_n (pc' := 1) rfl rfl rfl ?_
  refine wp_call (pc' := 4) rfl rfl rfl rfl rfl ⟨Nat.le_of_ble_eq_true rfl, Nat.le_of_ble_eq_true rfl, Nat.le_of_ble_eq_true rfl, Nat.le_of_ble_eq_true rfl, Nat.le_of_ble_eq_true rfl⟩ rfl (c_VH_isRow) ?_
  rintro v1 w9 ⟨hw9, ⟨hv1, hb1⟩ | ⟨hv1, hb1⟩⟩
  · skip
    rw [hv1, hw9]
    clear hv1 hw9 v1 w9
    have hst := strip_row hT hb1.1 hb1.2
    have hs7 := hst.1.1
    have hs1 := hst.1.2.1
    dsimp only [Option.toList, List.cons_append, List.nil_append, List.append_nil]
    refine wp_if_eq (pc' := 7) (pt := 13) rfl rfl rfl (fun q_1 => absurd q_1 (by decide)) (fun q_1 => ?_)
    refine wp_iload_n (pc' := 8) rfl rfl rfl ?_
    refine wp_bipush (a := 40) (pc' := 10) rfl rfl rfl ?_
    refine wp_icmp_le (pc' := 13) (pt := 15) rfl rfl rfl (fun q_2 => ?_) (fun q_2 => ?_)
    · skip
      refine wp_iload_n (pc' := 16) rfl rfl rfl ?_
      refine wp_if_ge (pc' := 19) (pt := 25) rfl rfl rfl (fun q_3 => ?_) (fun q_3 => ?_)
      · skip
        refine wp_aload_n (pc' := 26) rfl rfl rfl (by decide) ?_
        refine wp_getR (r' := 1) (ci := 9) (k0 := 0) (pc' := 29) rfl rfl (by decide) (by first | assumption | rfl) (hT.get 0 rfl) ?_
        refine wp_iload_n (pc' := 30) rfl rfl rfl ?_
        refine wp_aaload (r' := (53 + 2 * r)) (pc' := 31) rfl rfl (by first | assumption | rfl) rfl (by omega) (hst.2) ?_
        refine wp_iload_n (pc' := 32) rfl rfl rfl ?_
        refine wp_iconst (a := 0) (pc' := 33) rfl rfl rfl ?_
        refine wp_call (pc' := 36) rfl rfl rfl rfl rfl ⟨Nat.le_of_ble_eq_true rfl, Nat.le_of_ble_eq_true rfl, Nat.le_of_ble_eq_true rfl, Nat.le_of_ble_eq_true rfl, Nat.le_of_ble_eq_true rfl⟩ (recv_strip hs7 (by decide)) (c_Strip_renew (w := w) hst.1 (by omega)) ?_
        rintro v1 w1 ⟨hv1, hS, hn1, hz1⟩
        rw [hv1]
        clear hv1 v1
        have hT := hT.row hb1.1 hb1.2 hS
        have e2 : w1 (-2) = w (-2) := hS.cell (-2) (by simp; omega) (by simp; omega)
        dsimp only [Option.toList, List.cons_append, List.nil_append, List.append_nil]
        refine wp_iload_n (pc' := 37) rfl rfl rfl ?_
        refine wp_ret rfl rfl rfl ?_
        refine ⟨_, rfl, ?_, ?_⟩
        · first | exact e2 | rfl
        refine wp_iload_n (pc' := 1) rfl rfl rfl ?_
        refine wp_call (pc' := 4) rfl rfl rfl rfl rfl ⟨Nat.le_of_ble_eq_true rfl, Nat.le_of_ble_eq_true rfl, Nat.le_of_ble_eq_true rfl, Nat.le_of_ble_eq_true rfl, Nat.le_of_ble_eq_true rfl⟩ rfl (c_Mod_isRow) ?_
        rintro v1 w9 ⟨hw9, ⟨hv1, hb1⟩ | ⟨hv1, hb1⟩⟩
        · skip
          rw [hv1, hw9]
          clear hv1 hw9 v1 w9
          dsimp only [Option.toList, List.cons_append, List.nil_append, List.append_nil]
          refine wp_if_eq (pc' := 7) (pt := 13) rfl rfl rfl (fun q_54 => absurd q_54 (by decide)) (fun q_54 => ?_)
          refine wp_iload_n (pc' := 8) rfl rfl rfl ?_
          refine wp_bipush (a := 40) (pc' := 10) rfl rfl rfl ?_
          refine wp_icmp_le (pc' := 13) (pt := 15) rfl rfl rfl (fun q_55 => ?_) (fun q_55 => ?_)
          · skip
            refine wp_iload_n (pc' := 16) rfl rfl rfl ?_
            refine wp_if_ge (pc' := 19) (pt := 25) rfl rfl rfl (fun q_56 => ?_) (fun q_56 => ?_)
            · skip
              refine wp_aload_n (pc' := 26) rfl rfl rfl (by decide) ?_
              refine wp_getR (r' := 102) (ci := 10) (k0 := 5) (pc' := 29) rfl rfl (by decide) (by first | assumption | rfl) (hT.get 100 rfl) ?_
              refine wp_iload_n (pc' := 30) rfl rfl rfl ?_
              refine wp_iload_n (pc' := 31) rfl rfl rfl ?_
              refine wp_iastore (pc' := 32) rfl rfl (by first | assumption | rfl) (by omega) ?_
              refine wp_iconst (a := 0) (pc' := 33) rfl rfl rfl ?_
              refine wp_istore_n (pc' := 34) rfl rfl (Nat.le_of_ble_eq_true rfl) rfl ?_
              dsimp only [lset, lset2, List.set, List.getElem?_cons_zero, List.getElem?_cons_succ]
              first
              | (exfalso; omega)
              | (refine WP.mono (l_Mrow (w := up w1 102 r n) (hT.putA (by decide)) hb1 40 0 _ (by omega) (by omega) (Same.rf _ _) (fun j a b => by omega) (fun z hz => rfl)) (fun v2 w3 h3 => ?_)
                 obtain ⟨hv3, hS3, hz3, ho3⟩ := h3
                 have hSF : SameF w w3 [54 + 2 * r, 102, 103] [(53 + 2 * r, 1), (0, 14), (100, 2)] := ((hS.mono (by simp) (by simp)).put (Or.inl (by simp))).tr ((hS3.mono (by simp)).F _)
                 have e1 : ∀ q : Int, q ≠ 103 → q ≠ 102 → w3 q = w1 q := fun q a b => by rw [hS3 q (by simpa using a), up_ne b]
                 have e3 : w3 102 = (up w1 102 r n) 102 := hS3 102 (by decide)
                 have e4 : ∀ q k : Int, q ≠ 53 + 2 * r → q ≠ 54 + 2 * r → w1 q k = w q k := fun q k a b => hS q k (by simpa using b) (by simp; omega)
                 refine ⟨hv3, by rw [e1 _ (by decide) (by decide)], hI.rows hb1.1 hb1.2 hSF ?_ ⟨?_, ?_, ?_⟩ ?_⟩
                 · rw [e1 _ (by decide) (by decide), e1 _ (by decide) (by decide), e4 _ _ (by omega) (by omega), e4 _ _ (by omega) (by omega)]; exact hITo
                 · rw [e1 _ (by omega) (by omega), e3, up_eq]; exact hn1
                 · rw [e3, up_eq]; omega
                 · intro j a b
                   rw [e3, up_eq] at b
                   rw [e1 _ (by omega) (by omega), hz1 j a b, hz3 j a (by omega)]
                   exact ⟨rfl, by unfold I32; omega⟩
                 · intro q a b hq
                   refine ⟨by rw [e3, up_at hq, e4 _ _ (by omega) (by omega)], fun j x y => ?_⟩
                   rw [ho3 _ (by omega), up_ne (by decide), e4 _ _ (by omega) (by omega)])
            · skip
              refine wp_aload_n (pc' := 20) rfl rfl rfl (by decide) ?_
              refine wp_iconst (a := 5) (pc' := 21) rfl rfl rfl ?_
              refine wp_call (pc' := 24) rfl rfl rfl rfl rfl ⟨Nat.le_of_ble_eq_true rfl, Nat.le_of_ble_eq_true rfl, Nat.le_of_ble_eq_true rfl, Nat.le_of_ble_eq_true rfl, Nat.le_of_ble_eq_true rfl⟩ rfl (c_Mod_meets hT (by decide)) ?_
              rintro v1 w9 ⟨hv1, hw9⟩
              rw [hv1]
              clear hv1 v1
              dsimp only [Option.toList, List.cons_append, List.nil_append, List.append_nil]
              refine wp_ret rfl rfl rfl ?_
              first
              | (exfalso; omega)
              | exact ⟨rfl, rfl, hI⟩
              | exact ⟨rfl, by rw [hw9, up_ne (by decide), up_ne (by decide)], by
                  rw [hw9, hw1, up_ne (show (101 : Int) ≠ 52 by decide), up_ne (show (101 : Int) ≠ 0 by decide)]
                  exact hI.refused (f := 5) (by decide)⟩
          · skip
            refine wp_iconst (a := -1) (pc' := 14) rfl rfl rfl ?_
            refine wp_ret rfl rfl rfl ?_
            first
            | (exfalso; omega)
            | exact ⟨rfl, rfl, hI⟩
            | exact ⟨rfl, by rw [hw9, up_ne (by decide), up_ne (by decide)], by
                rw [hw9, hw1, up_ne (show (101 : Int) ≠ 52 by decide), up_ne (show (101 : Int) ≠ 0 by decide)]
                exact hI.refused (f := 5) (by decide)⟩
        · skip
          rw [hv1, hw9]
          clear hv1 hw9 v1 w9
          dsimp only [Option.toList, List.cons_append, List.nil_append, List.append_nil]
          refine wp_if_eq (pc' := 7) (pt := 13) rfl rfl rfl (fun q_57 => ?_) (fun q_57 => absurd (by decide) q_57)
          refine wp_iconst (a := -1) (pc' := 14) rfl rfl rfl ?_
          refine wp_ret rfl rfl rfl ?_
          first
          | (exfalso; omega)
          | exact ⟨rfl, rfl, hI⟩
          | exact ⟨rfl, by rw [hw9, up_ne (by decide), up_ne (by decide)], by
              rw [hw9, hw1, up_ne (show (101 : Int) ≠ 52 by decide), up_ne (show (101 : Int) ≠ 0 by decide)]
              exact hI.refused (f := 5) (by decide)⟩
      · skip
        refine wp_aload_n (pc' := 20) rfl rfl rfl (by decide) ?_
        refine wp_iconst (a := 5) (pc' := 21) rfl rfl rfl ?_
        refine wp_call (pc' := 24) rfl rfl rfl rfl rfl ⟨Nat.le_of_ble_eq_true rfl, Nat.le_of_ble_eq_true rfl, Nat.le_of_ble_eq_true rfl, Nat.le_of_ble_eq_true rfl, Nat.le_of_ble_eq_true rfl⟩ rfl (c_VH_refuse hT (by decide)) ?_
        rintro v1 w1 ⟨hv1, hw1⟩
        rw [hv1]
        clear hv1 v1
        have hT := (by rw [hw1]; exact (hT.putF (by decide)).putA (by decide) : Stc w1)
        have e2 : w1 (-2) = w (-2) := by rw [hw1, up_ne (by decide), up_ne (by decide)]
        have eo : ∀ q : Int, q ≠ 0 → q ≠ 52 → w1 q = w q := fun q a b => by rw [hw1, up_ne b, up_ne a]
        have eo102 := eo 102 (by decide) (by decide)
        dsimp only [Option.toList, List.cons_append, List.nil_append, List.append_nil]
        refine wp_ret rfl rfl rfl ?_
        refine ⟨_, rfl, ?_, ?_⟩
        · first | exact e2 | rfl
        refine wp_iload_n (pc' := 1) rfl rfl rfl ?_
        refine wp_call (pc' := 4) rfl rfl rfl rfl rfl ⟨Nat.le_of_ble_eq_true rfl, Nat.le_of_ble_eq_true rfl, Nat.le_of_ble_eq_true rfl, Nat.le_of_ble_eq_true rfl, Nat.le_of_ble_eq_true rfl⟩ rfl (c_Mod_isRow) ?_
        rintro v1 w9 ⟨hw9, ⟨hv1, hb1⟩ | ⟨hv1, hb1⟩⟩
        · skip
          rw [hv1, hw9]
          clear hv1 hw9 v1 w9
          dsimp only [Option.toList, List.cons_append, List.nil_append, List.append_nil]
          refine wp_if_eq (pc' := 7) (pt := 13) rfl rfl rfl (fun q_108 => absurd q_108 (by decide)) (fun q_108 => ?_)
          refine wp_iload_n (pc' := 8) rfl rfl rfl ?_
          refine wp_bipush (a := 40) (pc' := 10) rfl rfl rfl ?_
          refine wp_icmp_le (pc' := 13) (pt := 15) rfl rfl rfl (fun q_109 => ?_) (fun q_109 => ?_)
          · skip
            refine wp_iload_n (pc' := 16) rfl rfl rfl ?_
            refine wp_if_ge (pc' := 19) (pt := 25) rfl rfl rfl (fun q_110 => ?_) (fun q_110 => ?_)
            · skip
              refine wp_aload_n (pc' := 26) rfl rfl rfl (by decide) ?_
              refine wp_getR (r' := 102) (ci := 10) (k0 := 5) (pc' := 29) rfl rfl (by decide) (by first | assumption | rfl) (hT.get 100 rfl) ?_
              refine wp_iload_n (pc' := 30) rfl rfl rfl ?_
              refine wp_iload_n (pc' := 31) rfl rfl rfl ?_
              refine wp_iastore (pc' := 32) rfl rfl (by first | assumption | rfl) (by omega) ?_
              refine wp_iconst (a := 0) (pc' := 33) rfl rfl rfl ?_
              refine wp_istore_n (pc' := 34) rfl rfl (Nat.le_of_ble_eq_true rfl) rfl ?_
              dsimp only [lset, lset2, List.set, List.getElem?_cons_zero, List.getElem?_cons_succ]
              first
              | (exfalso; omega)
              | (refine WP.mono (l_Mrow (w := up w1 102 r n) (hT.putA (by decide)) hb1 40 0 _ (by omega) (by omega) (Same.rf _ _) (fun j a b => by omega) (fun z hz => rfl)) (fun v2 w3 h3 => ?_)
                 obtain ⟨hv3, hS3, hz3, ho3⟩ := h3
                 have hSF : SameF w w3 [54 + 2 * r, 102, 103] [(53 + 2 * r, 1), (0, 14), (100, 2)] := ((hS.mono (by simp) (by simp)).put (Or.inl (by simp))).tr ((hS3.mono (by simp)).F _)
                 have e1 : ∀ q : Int, q ≠ 103 → q ≠ 102 → w3 q = w1 q := fun q a b => by rw [hS3 q (by simpa using a), up_ne b]
                 have e3 : w3 102 = (up w1 102 r n) 102 := hS3 102 (by decide)
                 have e4 : ∀ q k : Int, q ≠ 53 + 2 * r → q ≠ 54 + 2 * r → w1 q k = w q k := fun q k a b => hS q k (by simpa using b) (by simp; omega)
                 refine ⟨hv3, by rw [e1 _ (by decide) (by decide)], hI.rows hb1.1 hb1.2 hSF ?_ ⟨?_, ?_, ?_⟩ ?_⟩
                 · rw [e1 _ (by decide) (by decide), e1 _ (by decide) (by decide), e4 _ _ (by omega) (by omega), e4 _ _ (by omega) (by omega)]; exact hITo
                 · rw [e1 _ (by omega) (by omega), e3, up_eq]; exact hn1
                 · rw [e3, up_eq]; omega
                 · intro j a b
                   rw [e3, up_eq] at b
                   rw [e1 _ (by omega) (by omega), hz1 j a b, hz3 j a (by omega)]
                   exact ⟨rfl, by unfold I32; omega⟩
                 · intro q a b hq
                   refine ⟨by rw [e3, up_at hq, e4 _ _ (by omega) (by omega)], fun j x y => ?_⟩
                   rw [ho3 _ (by omega), up_ne (by decide), e4 _ _ (by omega) (by omega)])
            · skip
              refine wp_aload_n (pc' := 20) rfl rfl rfl (by decide) ?_
              refine wp_iconst (a := 5) (pc' := 21) rfl rfl rfl ?_
              refine wp_call (pc' := 24) rfl rfl rfl rfl rfl ⟨Nat.le_of_ble_eq_true rfl, Nat.le_of_ble_eq_true rfl, Nat.le_of_ble_eq_true rfl, Nat.le_of_ble_eq_true rfl, Nat.le_of_ble_eq_true rfl⟩ rfl (c_Mod_meets hT (by decide)) ?_
              rintro v1 w9 ⟨hv1, hw9⟩
              rw [hv1]
              clear hv1 v1
              dsimp only [Option.toList, List.cons_append, List.nil_append, List.append_nil]
              refine wp_ret rfl rfl rfl ?_
              first
              | (exfalso; omega)
              | exact ⟨rfl, rfl, hI⟩
              | exact ⟨rfl, by rw [hw9, up_ne (by decide), up_ne (by decide)], by
                  rw [hw9, hw1, up_ne (show (101 : Int) ≠ 52 by decide), up_ne (show (101 : Int) ≠ 0 by decide)]
                  exact hI.refused (f := 5) (by decide)⟩
          · skip
            refine wp_iconst (a := -1) (pc' := 14) rfl rfl rfl ?_
            refine wp_ret rfl rfl rfl ?_
            first
            | (exfalso; omega)
            | exact ⟨rfl, rfl, hI⟩
            | exact ⟨rfl, by rw [hw9, up_ne (by decide), up_ne (by decide)], by
                rw [hw9, hw1, up_ne (show (101 : Int) ≠ 52 by decide), up_ne (show (101 : Int) ≠ 0 by decide)]
                exact hI.refused (f := 5) (by decide)⟩
        · skip
          rw [hv1, hw9]
          clear hv1 hw9 v1 w9
          dsimp only [Option.toList, List.cons_append, List.nil_append, List.append_nil]
          refine wp_if_eq (pc' := 7) (pt := 13) rfl rfl rfl (fun q_111 => ?_) (fun q_111 => absurd (by decide) q_111)
          refine wp_iconst (a := -1) (pc' := 14) rfl rfl rfl ?_
          refine wp_ret rfl rfl rfl ?_
          first
          | (exfalso; omega)
          | exact ⟨rfl, rfl, hI⟩
          | exact ⟨rfl, by rw [hw9, up_ne (by decide), up_ne (by decide)], by
              rw [hw9, hw1, up_ne (show (101 : Int) ≠ 52 by decide), up_ne (show (101 : Int) ≠ 0 by decide)]
              exact hI.refused (f := 5) (by decide)⟩
    · skip
      refine wp_iconst (a := -1) (pc' := 14) rfl rfl rfl ?_
      refine wp_ret rfl rfl rfl ?_
      refine ⟨_, rfl, ?_, ?_⟩
      · first | exact e2 | rfl
      refine wp_iload_n (pc' := 1) rfl rfl rfl ?_
      refine wp_call (pc' := 4) rfl rfl rfl rfl rfl ⟨Nat.le_of_ble_eq_true rfl, Nat.le_of_ble_eq_true rfl, Nat.le_of_ble_eq_true rfl, Nat.le_of_ble_eq_true rfl, Nat.le_of_ble_eq_true rfl⟩ rfl (c_Mod_isRow) ?_
      rintro v1 w9 ⟨hw9, ⟨hv1, hb1⟩ | ⟨hv1, hb1⟩⟩
      · skip
        rw [hv1, hw9]
        clear hv1 hw9 v1 w9
        dsimp only [Option.toList, List.cons_append, List.nil_append, List.append_nil]
        refine wp_if_eq (pc' := 7) (pt := 13) rfl rfl rfl (fun q_162 => absurd q_162 (by decide)) (fun q_162 => ?_)
        refine wp_iload_n (pc' := 8) rfl rfl rfl ?_
        refine wp_bipush (a := 40) (pc' := 10) rfl rfl rfl ?_
        refine wp_icmp_le (pc' := 13) (pt := 15) rfl rfl rfl (fun q_163 => ?_) (fun q_163 => ?_)
        · skip
          refine wp_iload_n (pc' := 16) rfl rfl rfl ?_
          refine wp_if_ge (pc' := 19) (pt := 25) rfl rfl rfl (fun q_164 => ?_) (fun q_164 => ?_)
          · skip
            refine wp_aload_n (pc' := 26) rfl rfl rfl (by decide) ?_
            refine wp_getR (r' := 102) (ci := 10) (k0 := 5) (pc' := 29) rfl rfl (by decide) (by first | assumption | rfl) (hT.get 100 rfl) ?_
            refine wp_iload_n (pc' := 30) rfl rfl rfl ?_
            refine wp_iload_n (pc' := 31) rfl rfl rfl ?_
            refine wp_iastore (pc' := 32) rfl rfl (by first | assumption | rfl) (by omega) ?_
            refine wp_iconst (a := 0) (pc' := 33) rfl rfl rfl ?_
            refine wp_istore_n (pc' := 34) rfl rfl (Nat.le_of_ble_eq_true rfl) rfl ?_
            dsimp only [lset, lset2, List.set, List.getElem?_cons_zero, List.getElem?_cons_succ]
            first
            | (exfalso; omega)
            | (refine WP.mono (l_Mrow (w := up w1 102 r n) (hT.putA (by decide)) hb1 40 0 _ (by omega) (by omega) (Same.rf _ _) (fun j a b => by omega) (fun z hz => rfl)) (fun v2 w3 h3 => ?_)
               obtain ⟨hv3, hS3, hz3, ho3⟩ := h3
               have hSF : SameF w w3 [54 + 2 * r, 102, 103] [(53 + 2 * r, 1), (0, 14), (100, 2)] := ((hS.mono (by simp) (by simp)).put (Or.inl (by simp))).tr ((hS3.mono (by simp)).F _)
               have e1 : ∀ q : Int, q ≠ 103 → q ≠ 102 → w3 q = w1 q := fun q a b => by rw [hS3 q (by simpa using a), up_ne b]
               have e3 : w3 102 = (up w1 102 r n) 102 := hS3 102 (by decide)
               have e4 : ∀ q k : Int, q ≠ 53 + 2 * r → q ≠ 54 + 2 * r → w1 q k = w q k := fun q k a b => hS q k (by simpa using b) (by simp; omega)
               refine ⟨hv3, by rw [e1 _ (by decide) (by decide)], hI.rows hb1.1 hb1.2 hSF ?_ ⟨?_, ?_, ?_⟩ ?_⟩
               · rw [e1 _ (by decide) (by decide), e1 _ (by decide) (by decide), e4 _ _ (by omega) (by omega), e4 _ _ (by omega) (by omega)]; exact hITo
               · rw [e1 _ (by omega) (by omega), e3, up_eq]; exact hn1
               · rw [e3, up_eq]; omega
               · intro j a b
                 rw [e3, up_eq] at b
                 rw [e1 _ (by omega) (by omega), hz1 j a b, hz3 j a (by omega)]
                 exact ⟨rfl, by unfold I32; omega⟩
               · intro q a b hq
                 refine ⟨by rw [e3, up_at hq, e4 _ _ (by omega) (by omega)], fun j x y => ?_⟩
                 rw [ho3 _ (by omega), up_ne (by decide), e4 _ _ (by omega) (by omega)])
          · skip
            refine wp_aload_n (pc' := 20) rfl rfl rfl (by decide) ?_
            refine wp_iconst (a := 5) (pc' := 21) rfl rfl rfl ?_
            refine wp_call (pc' := 24) rfl rfl rfl rfl rfl ⟨Nat.le_of_ble_eq_true rfl, Nat.le_of_ble_eq_true rfl, Nat.le_of_ble_eq_true rfl, Nat.le_of_ble_eq_true rfl, Nat.le_of_ble_eq_true rfl⟩ rfl (c_Mod_meets hT (by decide)) ?_
            rintro v1 w9 ⟨hv1, hw9⟩
            rw [hv1]
            clear hv1 v1
            dsimp only [Option.toList, List.cons_append, List.nil_append, List.append_nil]
            refine wp_ret rfl rfl rfl ?_
            first
            | (exfalso; omega)
            | exact ⟨rfl, rfl, hI⟩
            | exact ⟨rfl, by rw [hw9, up_ne (by decide), up_ne (by decide)], by
                rw [hw9, hw1, up_ne (show (101 : Int) ≠ 52 by decide), up_ne (show (101 : Int) ≠ 0 by decide)]
                exact hI.refused (f := 5) (by decide)⟩
        · skip
          refine wp_iconst (a := -1) (pc' := 14) rfl rfl rfl ?_
          refine wp_ret rfl rfl rfl ?_
          first
          | (exfalso; omega)
          | exact ⟨rfl, rfl, hI⟩
          | exact ⟨rfl, by rw [hw9, up_ne (by decide), up_ne (by decide)], by
              rw [hw9, hw1, up_ne (show (101 : Int) ≠ 52 by decide), up_ne (show (101 : Int) ≠ 0 by decide)]
              exact hI.refused (f := 5) (by decide)⟩
      · skip
        rw [hv1, hw9]
        clear hv1 hw9 v1 w9
        dsimp only [Option.toList, List.cons_append, List.nil_append, List.append_nil]
        refine wp_if_eq (pc' := 7) (pt := 13) rfl rfl rfl (fun q_165 => ?_) (fun q_165 => absurd (by decide) q_165)
        refine wp_iconst (a := -1) (pc' := 14) rfl rfl rfl ?_
        refine wp_ret rfl rfl rfl ?_
        first
        | (exfalso; omega)
        | exact ⟨rfl, rfl, hI⟩
        | exact ⟨rfl, by rw [hw9, up_ne (by decide), up_ne (by decide)], by
            rw [hw9, hw1, up_ne (show (101 : Int) ≠ 52 by decide), up_ne (show (101 : Int) ≠ 0 by decide)]
            exact hI.refused (f := 5) (by decide)⟩
  · skip
    rw [hv1, hw9]
    clear hv1 hw9 v1 w9
    dsimp only [Option.toList, List.cons_append, List.nil_append, List.append_nil]
    refine wp_if_eq (pc' := 7) (pt := 13) rfl rfl rfl (fun q_166 => ?_) (fun q_166 => absurd (by decide) q_166)
    refine wp_iconst (a := -1) (pc' := 14) rfl rfl rfl ?_
    refine wp_ret rfl rfl rfl ?_
    refine ⟨_, rfl, ?_, ?_⟩
    · first | exact e2 | rfl
    refine wp_iload_n (pc' := 1) rfl rfl rfl ?_
    refine wp_call (pc' := 4) rfl rfl rfl rfl rfl ⟨Nat.le_of_ble_eq_true rfl, Nat.le_of_ble_eq_true rfl, Nat.le_of_ble_eq_true rfl, Nat.le_of_ble_eq_true rfl, Nat.le_of_ble_eq_true rfl⟩ rfl (c_Mod_isRow) ?_
    rintro v1 w9 ⟨hw9, ⟨hv1, hb1⟩ | ⟨hv1, hb1⟩⟩
    · skip
      rw [hv1, hw9]
      clear hv1 hw9 v1 w9
      dsimp only [Option.toList, List.cons_append, List.nil_append, List.append_nil]
      refine wp_if_eq (pc' := 7) (pt := 13) rfl rfl rfl (fun q_217 => absurd q_217 (by decide)) (fun q_217 => ?_)
      refine wp_iload_n (pc' := 8) rfl rfl rfl ?_
      refine wp_bipush (a := 40) (pc' := 10) rfl rfl rfl ?_
      refine wp_icmp_le (pc' := 13) (pt := 15) rfl rfl rfl (fun q_218 => ?_) (fun q_218 => ?_)
      · skip
        refine wp_iload_n (pc' := 16) rfl rfl rfl ?_
        refine wp_if_ge (pc' := 19) (pt := 25) rfl rfl rfl (fun q_219 => ?_) (fun q_219 => ?_)
        · skip
          refine wp_aload_n (pc' := 26) rfl rfl rfl (by decide) ?_
          refine wp_getR (r' := 102) (ci := 10) (k0 := 5) (pc' := 29) rfl rfl (by decide) (by first | assumption | rfl) (hT.get 100 rfl) ?_
          refine wp_iload_n (pc' := 30) rfl rfl rfl ?_
          refine wp_iload_n (pc' := 31) rfl rfl rfl ?_
          refine wp_iastore (pc' := 32) rfl rfl (by first | assumption | rfl) (by omega) ?_
          refine wp_iconst (a := 0) (pc' := 33) rfl rfl rfl ?_
          refine wp_istore_n (pc' := 34) rfl rfl (Nat.le_of_ble_eq_true rfl) rfl ?_
          dsimp only [lset, lset2, List.set, List.getElem?_cons_zero, List.getElem?_cons_succ]
          first
          | (exfalso; omega)
          | (refine WP.mono (l_Mrow (w := up w1 102 r n) (hT.putA (by decide)) hb1 40 0 _ (by omega) (by omega) (Same.rf _ _) (fun j a b => by omega) (fun z hz => rfl)) (fun v2 w3 h3 => ?_)
             obtain ⟨hv3, hS3, hz3, ho3⟩ := h3
             have hSF : SameF w w3 [54 + 2 * r, 102, 103] [(53 + 2 * r, 1), (0, 14), (100, 2)] := ((hS.mono (by simp) (by simp)).put (Or.inl (by simp))).tr ((hS3.mono (by simp)).F _)
             have e1 : ∀ q : Int, q ≠ 103 → q ≠ 102 → w3 q = w1 q := fun q a b => by rw [hS3 q (by simpa using a), up_ne b]
             have e3 : w3 102 = (up w1 102 r n) 102 := hS3 102 (by decide)
             have e4 : ∀ q k : Int, q ≠ 53 + 2 * r → q ≠ 54 + 2 * r → w1 q k = w q k := fun q k a b => hS q k (by simpa using b) (by simp; omega)
             refine ⟨hv3, by rw [e1 _ (by decide) (by decide)], hI.rows hb1.1 hb1.2 hSF ?_ ⟨?_, ?_, ?_⟩ ?_⟩
             · rw [e1 _ (by decide) (by decide), e1 _ (by decide) (by decide), e4 _ _ (by omega) (by omega), e4 _ _ (by omega) (by omega)]; exact hITo
             · rw [e1 _ (by omega) (by omega), e3, up_eq]; exact hn1
             · rw [e3, up_eq]; omega
             · intro j a b
               rw [e3, up_eq] at b
               rw [e1 _ (by omega) (by omega), hz1 j a b, hz3 j a (by omega)]
               exact ⟨rfl, by unfold I32; omega⟩
             · intro q a b hq
               refine ⟨by rw [e3, up_at hq, e4 _ _ (by omega) (by omega)], fun j x y => ?_⟩
               rw [ho3 _ (by omega), up_ne (by decide), e4 _ _ (by omega) (by omega)])
        · skip
          refine wp_aload_n (pc' := 20) rfl rfl rfl (by decide) ?_
          refine wp_iconst (a := 5) (pc' := 21) rfl rfl rfl ?_
          refine wp_call (pc' := 24) rfl rfl rfl rfl rfl ⟨Nat.le_of_ble_eq_true rfl, Nat.le_of_ble_eq_true rfl, Nat.le_of_ble_eq_true rfl, Nat.le_of_ble_eq_true rfl, Nat.le_of_ble_eq_true rfl⟩ rfl (c_Mod_meets hT (by decide)) ?_
          rintro v1 w9 ⟨hv1, hw9⟩
          rw [hv1]
          clear hv1 v1
          dsimp only [Option.toList, List.cons_append, List.nil_append, List.append_nil]
          refine wp_ret rfl rfl rfl ?_
          first
          | (exfalso; omega)
          | exact ⟨rfl, rfl, hI⟩
          | exact ⟨rfl, by rw [hw9, up_ne (by decide), up_ne (by decide)], by
              rw [hw9, hw1, up_ne (show (101 : Int) ≠ 52 by decide), up_ne (show (101 : Int) ≠ 0 by decide)]
              exact hI.refused (f := 5) (by decide)⟩
      · skip
        refine wp_iconst (a := -1) (pc' := 14) rfl rfl rfl ?_
        refine wp_ret rfl rfl rfl ?_
        first
        | (exfalso; omega)
        | exact ⟨rfl, rfl, hI⟩
        | exact ⟨rfl, by rw [hw9, up_ne (by decide), up_ne (by decide)], by
            rw [hw9, hw1, up_ne (show (101 : Int) ≠ 52 by decide), up_ne (show (101 : Int) ≠ 0 by decide)]
            exact hI.refused (f := 5) (by decide)⟩
    · skip
      rw [hv1, hw9]
      clear hv1 hw9 v1 w9
      dsimp only [Option.toList, List.cons_append, List.nil_append, List.append_nil]
      refine wp_if_eq (pc' := 7) (pt := 13) rfl rfl rfl (fun q_220 => ?_) (fun q_220 => absurd (by decide) q_220)
      refine wp_iconst (a := -1) (pc' := 14) rfl rfl rfl ?_
      refine wp_ret rfl rfl rfl ?_
      first
      | (exfalso; omega)
      | exact ⟨rfl, rfl, hI⟩
      | exact ⟨rfl, by rw [hw9, up_ne (by decide), up_ne (by decide)], by
          rw [hw9, hw1, up_ne (show (101 : Int) ≠ 52 by decide), up_ne (show (101 : Int) ≠ 0 by decide)]
          exact hI.refused (f := 5) (by decide)⟩
