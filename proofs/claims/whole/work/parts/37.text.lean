/-! text, put -/
set_option maxRecDepth 20000 in
set_option maxHeartbeats 4000000 in
theorem l_Mtext {w : Hp} {d : Nat} {r n : Int} (hT0 : Stc w) (hr : 0 ≤ r ∧ r < 4) : ∀ (k : Nat) (i : Int) (w2 : Hp), 0 ≤ i → i + k = 60 → Same w w2 [106] → (∀ j : Int, 0 ≤ j → j < i → w2 106 (60 * r + j) = 32) → (∀ z : Int, z < 60 * r ∨ 60 * r + 60 ≤ z → w2 106 z = w 106 z) → WP SH d 157 34 [some (vR 100), some (vI r), some (vI n), some (vI i)] [] w2 (fun v w' => v = some (vI n) ∧ Same w w' [106] ∧ (∀ j : Int, 0 ≤ j → j < 60 → w' 106 (60 * r + j) = 32) ∧ (∀ z : Int, z < 60 * r ∨ 60 * r + 60 ≤ z → w' 106 z = w 106 z)) := by
  intro k
  induction k with
  | zero =>
    intro i w2 hi0 hik hS hz ho
    have hT := hT0.same hS (by decide)
    refine wp_iload_n (pc' := 35) rfl rfl rfl ?_
    refine wp_bipush (a := 60) (pc' := 37) rfl rfl rfl ?_
    refine wp_icmp_ge (pc' := 40) (pt := 59) rfl rfl rfl (fun q_1 => ?_) (fun q_1 => ?_)
    · skip
      refine wp_iload_n (pc' := 60) rfl rfl rfl ?_
      refine wp_ret rfl rfl rfl ?_
      exact ⟨rfl, hS, fun j a b => hz j a (by omega), ho⟩
    · skip
      exfalso; omega
  | succ k ih =>
    intro i w2 hi0 hik hS hz ho
    have hT := hT0.same hS (by decide)
    refine wp_iload_n (pc' := 35) rfl rfl rfl ?_
    refine wp_bipush (a := 60) (pc' := 37) rfl rfl rfl ?_
    refine wp_icmp_ge (pc' := 40) (pt := 59) rfl rfl rfl (fun q_1 => ?_) (fun q_1 => ?_)
    · skip
      exfalso; omega
    · skip
      refine wp_aload_n (pc' := 41) rfl rfl rfl (by decide) ?_
      refine wp_getR (r' := 106) (ci := 10) (k0 := 9) (pc' := 44) rfl rfl (by decide) (by first | assumption | rfl) (hT.get 104 rfl) ?_
      refine wp_bipush (a := 60) (pc' := 46) rfl rfl rfl ?_
      refine wp_iload_n (pc' := 47) rfl rfl rfl ?_
      refine wp_imul (pc' := 48) rfl rfl (by first | exact w32_id (by omega) (by omega) | rfl) ?_
      refine wp_iload_n (pc' := 49) rfl rfl rfl ?_
      refine wp_iadd (pc' := 50) rfl rfl (by first | exact w32_id (by omega) (by omega) | rfl) ?_
      refine wp_bipush (a := 32) (pc' := 52) rfl rfl rfl ?_
      refine wp_bastoreB (pc' := 53) rfl rfl rfl (by omega) ?_
      refine wp_iinc (pc' := 56) rfl rfl rfl (inc_id (by omega) (by omega)) rfl ?_
      dsimp only [lset, lset2, List.set, List.getElem?_cons_zero, List.getElem?_cons_succ]
      refine wp_goto (pc' := 34) rfl rfl ?_
      refine ih _ _ (by omega) (by omega) (hS.put (by decide)) (fun j a b => ?_) (fun z hzz => ?_)
      · by_cases hj : 60 * r + j = 60 * r + i
        · rw [hj, up_eq]; decide
        · rw [up_at hj]; exact hz j a (by omega)
      · rw [up_at (by omega)]; exact ho z hzz
set_option maxRecDepth 20000 in
set_option maxHeartbeats 4000000 in
theorem p_text {w : Hp} {d : Nat} {r : Int} {n : Int} (hI : Inv w) : WP SH (d + 9) 86 0 [some (vR 0), some (vI r), some (vI n)] [] w (fun v0 w1 => ∃ a, v0 = some (vI a) ∧ w1 (-2) = w (-2) ∧ WP SH (d + 9) 157 0 [some (vR 100), some (vI r), some (vI n), none] [] w1 (fun v2 w2 => v2 = some (vI a) ∧ w2 (-2) = w1 (-2) ∧ Inv w2)) := by
  obtain ⟨hT, hRO, hIF, hITo, hIR, hIT, hIL, hIK⟩ := id hI
  refine wp_iload_n (pc' := 1) rfl rfl rfl ?_
  refine wp_call (pc' := 4) rfl rfl rfl rfl rfl ⟨Nat.le_of_ble_eq_true rfl, Nat.le_of_ble_eq_true rfl, Nat.le_of_ble_eq_true rfl, Nat.le_of_ble_eq_true rfl, Nat.le_of_ble_eq_true rfl⟩ rfl (c_VH_isText) ?_
  rintro v1 w9 ⟨hw9, ⟨hv1, hb1⟩ | ⟨hv1, hb1⟩⟩
  · skip
    rw [hv1, hw9]
    clear hv1 hw9 v1 w9
    have hst := strip_text hT hb1.1 hb1.2
    have hs7 := hst.1.1
    have hs1 := hst.1.2.1
    have hir := hIT r hb1.1 hb1.2
    have hbr := hb1
    dsimp only [Option.toList, List.cons_append, List.nil_append, List.append_nil]
    refine wp_if_eq (pc' := 7) (pt := 13) rfl rfl rfl (fun q_1 => absurd q_1 (by decide)) (fun q_1 => ?_)
    refine wp_iload_n (pc' := 8) rfl rfl rfl ?_
    refine wp_bipush (a := 60) (pc' := 10) rfl rfl rfl ?_
    refine wp_icmp_le (pc' := 13) (pt := 15) rfl rfl rfl (fun q_2 => ?_) (fun q_2 => ?_)
    · skip
      refine wp_iload_n (pc' := 16) rfl rfl rfl ?_
      refine wp_if_ge (pc' := 19) (pt := 25) rfl rfl rfl (fun q_3 => ?_) (fun q_3 => ?_)
      · skip
        refine wp_aload_n (pc' := 26) rfl rfl rfl (by decide) ?_
        refine wp_getR (r' := 2) (ci := 9) (k0 := 1) (pc' := 29) rfl rfl (by decide) (by first | assumption | rfl) (hT.get 1 rfl) ?_
        refine wp_iload_n (pc' := 30) rfl rfl rfl ?_
        refine wp_aaload (r' := (65 + 2 * r)) (pc' := 31) rfl rfl (by first | assumption | rfl) rfl (by omega) (hst.2) ?_
        refine wp_iload_n (pc' := 32) rfl rfl rfl ?_
        refine wp_bipush (a := 32) (pc' := 34) rfl rfl rfl ?_
        refine wp_call (pc' := 37) rfl rfl rfl rfl rfl ⟨Nat.le_of_ble_eq_true rfl, Nat.le_of_ble_eq_true rfl, Nat.le_of_ble_eq_true rfl, Nat.le_of_ble_eq_true rfl, Nat.le_of_ble_eq_true rfl⟩ (recv_strip hs7 (by decide)) (c_Strip_renew (w := w) hst.1 (by omega)) ?_
        rintro v1 w1 ⟨hv1, hS, hn1, hz1⟩
        rw [hv1]
        clear hv1 v1
        have hT := hT.text hb1.1 hb1.2 hS
        have e2 : w1 (-2) = w (-2) := hS.cell (-2) (by simp; omega) (by simp; omega)
        dsimp only [Option.toList, List.cons_append, List.nil_append, List.append_nil]
        refine wp_iload_n (pc' := 38) rfl rfl rfl ?_
        refine wp_ret rfl rfl rfl ?_
        refine ⟨_, rfl, ?_, ?_⟩
        · first | exact e2 | rfl
        refine wp_iload_n (pc' := 1) rfl rfl rfl ?_
        refine wp_call (pc' := 4) rfl rfl rfl rfl rfl ⟨Nat.le_of_ble_eq_true rfl, Nat.le_of_ble_eq_true rfl, Nat.le_of_ble_eq_true rfl, Nat.le_of_ble_eq_true rfl, Nat.le_of_ble_eq_true rfl⟩ rfl (c_Mod_isText) ?_
        rintro v1 w9 ⟨hw9, ⟨hv1, hb1⟩ | ⟨hv1, hb1⟩⟩
        · skip
          rw [hv1, hw9]
          clear hv1 hw9 v1 w9
          dsimp only [Option.toList, List.cons_append, List.nil_append, List.append_nil]
          refine wp_if_eq (pc' := 7) (pt := 13) rfl rfl rfl (fun q_54 => absurd q_54 (by decide)) (fun q_54 => ?_)
          refine wp_iload_n (pc' := 8) rfl rfl rfl ?_
          refine wp_bipush (a := 60) (pc' := 10) rfl rfl rfl ?_
          refine wp_icmp_le (pc' := 13) (pt := 15) rfl rfl rfl (fun q_55 => ?_) (fun q_55 => ?_)
          · skip
            refine wp_iload_n (pc' := 16) rfl rfl rfl ?_
            refine wp_if_ge (pc' := 19) (pt := 25) rfl rfl rfl (fun q_56 => ?_) (fun q_56 => ?_)
            · skip
              refine wp_aload_n (pc' := 26) rfl rfl rfl (by decide) ?_
              refine wp_getR (r' := 105) (ci := 10) (k0 := 8) (pc' := 29) rfl rfl (by decide) (by first | assumption | rfl) (hT.get 103 rfl) ?_
              refine wp_iload_n (pc' := 30) rfl rfl rfl ?_
              refine wp_iload_n (pc' := 31) rfl rfl rfl ?_
              refine wp_iastore (pc' := 32) rfl rfl (by first | assumption | rfl) (by omega) ?_
              refine wp_iconst (a := 0) (pc' := 33) rfl rfl rfl ?_
              refine wp_istore_n (pc' := 34) rfl rfl (Nat.le_of_ble_eq_true rfl) rfl ?_
              dsimp only [lset, lset2, List.set, List.getElem?_cons_zero, List.getElem?_cons_succ]
              first
              | (exfalso; omega)
              | (refine WP.mono (l_Mtext (w := up w1 105 r n) (hT.putA (by decide)) hb1 60 0 _ (by omega) (by omega) (Same.rf _ _) (fun j a b => by omega) (fun z hz => rfl)) (fun v2 w3 h3 => ?_)
                 obtain ⟨hv3, hS3, hz3, ho3⟩ := h3
                 have hSF : SameF w w3 [66 + 2 * r, 105, 106] [(65 + 2 * r, 1)] := ((hS.mono (by simp) (by simp)).put (Or.inl (by simp))).tr ((hS3.mono (by simp)).F _)
                 have e1 : ∀ q : Int, q ≠ 106 → q ≠ 105 → w3 q = w1 q := fun q a b => by rw [hS3 q (by simpa using a), up_ne b]
                 have e3 : w3 105 = (up w1 105 r n) 105 := hS3 105 (by decide)
                 have e4 : ∀ q k : Int, q ≠ 65 + 2 * r → q ≠ 66 + 2 * r → w1 q k = w q k := fun q k a b => hS q k (by simpa using b) (by simp; omega)
                 refine ⟨hv3, by rw [e1 _ (by decide) (by decide)], hI.texts hb1.1 hb1.2 hSF ⟨?_, ?_, ?_⟩ ?_⟩
                 · rw [e1 _ (by omega) (by omega), e3, up_eq]; exact hn1
                 · rw [e3, up_eq]; omega
                 · intro j a b
                   rw [e3, up_eq] at b
                   rw [e1 _ (by omega) (by omega), hz1 j a b, hz3 j a (by omega)]
                   exact ⟨rfl, by decide, by decide⟩
                 · intro q a b hq
                   refine ⟨by rw [e3, up_at hq, e4 _ _ (by omega) (by omega)], fun j x y => ?_⟩
                   rw [ho3 _ (by omega), up_ne (by decide), e4 _ _ (by omega) (by omega)])
            · skip
              refine wp_aload_n (pc' := 20) rfl rfl rfl (by decide) ?_
              refine wp_iconst (a := 5) (pc' := 21) rfl rfl rfl ?_
              refine wp_call (pc' := 24) rfl rfl rfl rfl rfl ⟨Nat.le_of_ble_eq_true rfl, Nat.le_of_ble_eq_true rfl, Nat.le_of_ble_eq_true rfl, Nat.le_of_ble_eq_true rfl, Nat.le_of_ble_eq_true rfl⟩ rfl (c_Mod_meets hT (by decide)) ?_
              rintro v1 w9 ⟨hv1, hw9⟩
              rw [hv1]
              clear hv1 v1
              dsimp only [Option.toList, List.cons_append, List.nil_append, List.append_nil]
              refine wp_ret rfl rfl rfl ?_
              first
              | (exfalso; omega)
              | exact ⟨rfl, rfl, hI⟩
              | exact ⟨rfl, by rw [hw9, up_ne (by decide), up_ne (by decide)], by rw [hw9, hw1]; exact refW_inv hI (by decide)⟩
          · skip
            refine wp_iconst (a := -1) (pc' := 14) rfl rfl rfl ?_
            refine wp_ret rfl rfl rfl ?_
            first
            | (exfalso; omega)
            | exact ⟨rfl, rfl, hI⟩
            | exact ⟨rfl, by rw [hw9, up_ne (by decide), up_ne (by decide)], by rw [hw9, hw1]; exact refW_inv hI (by decide)⟩
        · skip
          rw [hv1, hw9]
          clear hv1 hw9 v1 w9
          dsimp only [Option.toList, List.cons_append, List.nil_append, List.append_nil]
          refine wp_if_eq (pc' := 7) (pt := 13) rfl rfl rfl (fun q_57 => ?_) (fun q_57 => absurd (by decide) q_57)
          refine wp_iconst (a := -1) (pc' := 14) rfl rfl rfl ?_
          refine wp_ret rfl rfl rfl ?_
          first
          | (exfalso; omega)
          | exact ⟨rfl, rfl, hI⟩
          | exact ⟨rfl, by rw [hw9, up_ne (by decide), up_ne (by decide)], by rw [hw9, hw1]; exact refW_inv hI (by decide)⟩
      · skip
        refine wp_aload_n (pc' := 20) rfl rfl rfl (by decide) ?_
        refine wp_iconst (a := 5) (pc' := 21) rfl rfl rfl ?_
        refine wp_call (pc' := 24) rfl rfl rfl rfl rfl ⟨Nat.le_of_ble_eq_true rfl, Nat.le_of_ble_eq_true rfl, Nat.le_of_ble_eq_true rfl, Nat.le_of_ble_eq_true rfl, Nat.le_of_ble_eq_true rfl⟩ rfl (c_VH_refuse hT (by decide)) ?_
        intro v1 w1 hq1
        obtain ⟨hv1, hw1⟩ := hq1
        rw [hv1]
        clear hv1 v1
        change w1 = refW w 5 at hw1
        have hT := (by rw [hw1]; exact refW_stc hT : Stc w1)
        have e2 : w1 (-2) = w (-2) := by rw [hw1]; exact refW_ne (by decide) (by decide)
        dsimp only [Option.toList, List.cons_append, List.nil_append, List.append_nil]
        refine wp_ret rfl rfl rfl ?_
        refine ⟨_, rfl, ?_, ?_⟩
        · first | exact e2 | rfl
        refine wp_iload_n (pc' := 1) rfl rfl rfl ?_
        refine wp_call (pc' := 4) rfl rfl rfl rfl rfl ⟨Nat.le_of_ble_eq_true rfl, Nat.le_of_ble_eq_true rfl, Nat.le_of_ble_eq_true rfl, Nat.le_of_ble_eq_true rfl, Nat.le_of_ble_eq_true rfl⟩ rfl (c_Mod_isText) ?_
        rintro v1 w9 ⟨hw9, ⟨hv1, hb1⟩ | ⟨hv1, hb1⟩⟩
        · skip
          rw [hv1, hw9]
          clear hv1 hw9 v1 w9
          dsimp only [Option.toList, List.cons_append, List.nil_append, List.append_nil]
          refine wp_if_eq (pc' := 7) (pt := 13) rfl rfl rfl (fun q_108 => absurd q_108 (by decide)) (fun q_108 => ?_)
          refine wp_iload_n (pc' := 8) rfl rfl rfl ?_
          refine wp_bipush (a := 60) (pc' := 10) rfl rfl rfl ?_
          refine wp_icmp_le (pc' := 13) (pt := 15) rfl rfl rfl (fun q_109 => ?_) (fun q_109 => ?_)
          · skip
            refine wp_iload_n (pc' := 16) rfl rfl rfl ?_
            refine wp_if_ge (pc' := 19) (pt := 25) rfl rfl rfl (fun q_110 => ?_) (fun q_110 => ?_)
            · skip
              refine wp_aload_n (pc' := 26) rfl rfl rfl (by decide) ?_
              refine wp_getR (r' := 105) (ci := 10) (k0 := 8) (pc' := 29) rfl rfl (by decide) (by first | assumption | rfl) (hT.get 103 rfl) ?_
              refine wp_iload_n (pc' := 30) rfl rfl rfl ?_
              refine wp_iload_n (pc' := 31) rfl rfl rfl ?_
              refine wp_iastore (pc' := 32) rfl rfl (by first | assumption | rfl) (by omega) ?_
              refine wp_iconst (a := 0) (pc' := 33) rfl rfl rfl ?_
              refine wp_istore_n (pc' := 34) rfl rfl (Nat.le_of_ble_eq_true rfl) rfl ?_
              dsimp only [lset, lset2, List.set, List.getElem?_cons_zero, List.getElem?_cons_succ]
              first
              | (exfalso; omega)
              | (refine WP.mono (l_Mtext (w := up w1 105 r n) (hT.putA (by decide)) hb1 60 0 _ (by omega) (by omega) (Same.rf _ _) (fun j a b => by omega) (fun z hz => rfl)) (fun v2 w3 h3 => ?_)
                 obtain ⟨hv3, hS3, hz3, ho3⟩ := h3
                 have hSF : SameF w w3 [66 + 2 * r, 105, 106] [(65 + 2 * r, 1)] := ((hS.mono (by simp) (by simp)).put (Or.inl (by simp))).tr ((hS3.mono (by simp)).F _)
                 have e1 : ∀ q : Int, q ≠ 106 → q ≠ 105 → w3 q = w1 q := fun q a b => by rw [hS3 q (by simpa using a), up_ne b]
                 have e3 : w3 105 = (up w1 105 r n) 105 := hS3 105 (by decide)
                 have e4 : ∀ q k : Int, q ≠ 65 + 2 * r → q ≠ 66 + 2 * r → w1 q k = w q k := fun q k a b => hS q k (by simpa using b) (by simp; omega)
                 refine ⟨hv3, by rw [e1 _ (by decide) (by decide)], hI.texts hb1.1 hb1.2 hSF ⟨?_, ?_, ?_⟩ ?_⟩
                 · rw [e1 _ (by omega) (by omega), e3, up_eq]; exact hn1
                 · rw [e3, up_eq]; omega
                 · intro j a b
                   rw [e3, up_eq] at b
                   rw [e1 _ (by omega) (by omega), hz1 j a b, hz3 j a (by omega)]
                   exact ⟨rfl, by decide, by decide⟩
                 · intro q a b hq
                   refine ⟨by rw [e3, up_at hq, e4 _ _ (by omega) (by omega)], fun j x y => ?_⟩
                   rw [ho3 _ (by omega), up_ne (by decide), e4 _ _ (by omega) (by omega)])
            · skip
              refine wp_aload_n (pc' := 20) rfl rfl rfl (by decide) ?_
              refine wp_iconst (a := 5) (pc' := 21) rfl rfl rfl ?_
              refine wp_call (pc' := 24) rfl rfl rfl rfl rfl ⟨Nat.le_of_ble_eq_true rfl, Nat.le_of_ble_eq_true rfl, Nat.le_of_ble_eq_true rfl, Nat.le_of_ble_eq_true rfl, Nat.le_of_ble_eq_true rfl⟩ rfl (c_Mod_meets hT (by decide)) ?_
              rintro v1 w9 ⟨hv1, hw9⟩
              rw [hv1]
              clear hv1 v1
              dsimp only [Option.toList, List.cons_append, List.nil_append, List.append_nil]
              refine wp_ret rfl rfl rfl ?_
              first
              | (exfalso; omega)
              | exact ⟨rfl, rfl, hI⟩
              | exact ⟨rfl, by rw [hw9, up_ne (by decide), up_ne (by decide)], by rw [hw9, hw1]; exact refW_inv hI (by decide)⟩
          · skip
            refine wp_iconst (a := -1) (pc' := 14) rfl rfl rfl ?_
            refine wp_ret rfl rfl rfl ?_
            first
            | (exfalso; omega)
            | exact ⟨rfl, rfl, hI⟩
            | exact ⟨rfl, by rw [hw9, up_ne (by decide), up_ne (by decide)], by rw [hw9, hw1]; exact refW_inv hI (by decide)⟩
        · skip
          rw [hv1, hw9]
          clear hv1 hw9 v1 w9
          dsimp only [Option.toList, List.cons_append, List.nil_append, List.append_nil]
          refine wp_if_eq (pc' := 7) (pt := 13) rfl rfl rfl (fun q_111 => ?_) (fun q_111 => absurd (by decide) q_111)
          refine wp_iconst (a := -1) (pc' := 14) rfl rfl rfl ?_
          refine wp_ret rfl rfl rfl ?_
          first
          | (exfalso; omega)
          | exact ⟨rfl, rfl, hI⟩
          | exact ⟨rfl, by rw [hw9, up_ne (by decide), up_ne (by decide)], by rw [hw9, hw1]; exact refW_inv hI (by decide)⟩
    · skip
      refine wp_iconst (a := -1) (pc' := 14) rfl rfl rfl ?_
      refine wp_ret rfl rfl rfl ?_
      refine ⟨_, rfl, ?_, ?_⟩
      · first | exact e2 | rfl
      refine wp_iload_n (pc' := 1) rfl rfl rfl ?_
      refine wp_call (pc' := 4) rfl rfl rfl rfl rfl ⟨Nat.le_of_ble_eq_true rfl, Nat.le_of_ble_eq_true rfl, Nat.le_of_ble_eq_true rfl, Nat.le_of_ble_eq_true rfl, Nat.le_of_ble_eq_true rfl⟩ rfl (c_Mod_isText) ?_
      rintro v1 w9 ⟨hw9, ⟨hv1, hb1⟩ | ⟨hv1, hb1⟩⟩
      · skip
        rw [hv1, hw9]
        clear hv1 hw9 v1 w9
        dsimp only [Option.toList, List.cons_append, List.nil_append, List.append_nil]
        refine wp_if_eq (pc' := 7) (pt := 13) rfl rfl rfl (fun q_162 => absurd q_162 (by decide)) (fun q_162 => ?_)
        refine wp_iload_n (pc' := 8) rfl rfl rfl ?_
        refine wp_bipush (a := 60) (pc' := 10) rfl rfl rfl ?_
        refine wp_icmp_le (pc' := 13) (pt := 15) rfl rfl rfl (fun q_163 => ?_) (fun q_163 => ?_)
        · skip
          refine wp_iload_n (pc' := 16) rfl rfl rfl ?_
          refine wp_if_ge (pc' := 19) (pt := 25) rfl rfl rfl (fun q_164 => ?_) (fun q_164 => ?_)
          · skip
            refine wp_aload_n (pc' := 26) rfl rfl rfl (by decide) ?_
            refine wp_getR (r' := 105) (ci := 10) (k0 := 8) (pc' := 29) rfl rfl (by decide) (by first | assumption | rfl) (hT.get 103 rfl) ?_
            refine wp_iload_n (pc' := 30) rfl rfl rfl ?_
            refine wp_iload_n (pc' := 31) rfl rfl rfl ?_
            refine wp_iastore (pc' := 32) rfl rfl (by first | assumption | rfl) (by omega) ?_
            refine wp_iconst (a := 0) (pc' := 33) rfl rfl rfl ?_
            refine wp_istore_n (pc' := 34) rfl rfl (Nat.le_of_ble_eq_true rfl) rfl ?_
            dsimp only [lset, lset2, List.set, List.getElem?_cons_zero, List.getElem?_cons_succ]
            first
            | (exfalso; omega)
            | (refine WP.mono (l_Mtext (w := up w1 105 r n) (hT.putA (by decide)) hb1 60 0 _ (by omega) (by omega) (Same.rf _ _) (fun j a b => by omega) (fun z hz => rfl)) (fun v2 w3 h3 => ?_)
               obtain ⟨hv3, hS3, hz3, ho3⟩ := h3
               have hSF : SameF w w3 [66 + 2 * r, 105, 106] [(65 + 2 * r, 1)] := ((hS.mono (by simp) (by simp)).put (Or.inl (by simp))).tr ((hS3.mono (by simp)).F _)
               have e1 : ∀ q : Int, q ≠ 106 → q ≠ 105 → w3 q = w1 q := fun q a b => by rw [hS3 q (by simpa using a), up_ne b]
               have e3 : w3 105 = (up w1 105 r n) 105 := hS3 105 (by decide)
               have e4 : ∀ q k : Int, q ≠ 65 + 2 * r → q ≠ 66 + 2 * r → w1 q k = w q k := fun q k a b => hS q k (by simpa using b) (by simp; omega)
               refine ⟨hv3, by rw [e1 _ (by decide) (by decide)], hI.texts hb1.1 hb1.2 hSF ⟨?_, ?_, ?_⟩ ?_⟩
               · rw [e1 _ (by omega) (by omega), e3, up_eq]; exact hn1
               · rw [e3, up_eq]; omega
               · intro j a b
                 rw [e3, up_eq] at b
                 rw [e1 _ (by omega) (by omega), hz1 j a b, hz3 j a (by omega)]
                 exact ⟨rfl, by decide, by decide⟩
               · intro q a b hq
                 refine ⟨by rw [e3, up_at hq, e4 _ _ (by omega) (by omega)], fun j x y => ?_⟩
                 rw [ho3 _ (by omega), up_ne (by decide), e4 _ _ (by omega) (by omega)])
          · skip
            refine wp_aload_n (pc' := 20) rfl rfl rfl (by decide) ?_
            refine wp_iconst (a := 5) (pc' := 21) rfl rfl rfl ?_
            refine wp_call (pc' := 24) rfl rfl rfl rfl rfl ⟨Nat.le_of_ble_eq_true rfl, Nat.le_of_ble_eq_true rfl, Nat.le_of_ble_eq_true rfl, Nat.le_of_ble_eq_true rfl, Nat.le_of_ble_eq_true rfl⟩ rfl (c_Mod_meets hT (by decide)) ?_
            rintro v1 w9 ⟨hv1, hw9⟩
            rw [hv1]
            clear hv1 v1
            dsimp only [Option.toList, List.cons_append, List.nil_append, List.append_nil]
            refine wp_ret rfl rfl rfl ?_
            first
            | (exfalso; omega)
            | exact ⟨rfl, rfl, hI⟩
            | exact ⟨rfl, by rw [hw9, up_ne (by decide), up_ne (by decide)], by rw [hw9, hw1]; exact refW_inv hI (by decide)⟩
        · skip
          refine wp_iconst (a := -1) (pc' := 14) rfl rfl rfl ?_
          refine wp_ret rfl rfl rfl ?_
          first
          | (exfalso; omega)
          | exact ⟨rfl, rfl, hI⟩
          | exact ⟨rfl, by rw [hw9, up_ne (by decide), up_ne (by decide)], by rw [hw9, hw1]; exact refW_inv hI (by decide)⟩
      · skip
        rw [hv1, hw9]
        clear hv1 hw9 v1 w9
        dsimp only [Option.toList, List.cons_append, List.nil_append, List.append_nil]
        refine wp_if_eq (pc' := 7) (pt := 13) rfl rfl rfl (fun q_165 => ?_) (fun q_165 => absurd (by decide) q_165)
        refine wp_iconst (a := -1) (pc' := 14) rfl rfl rfl ?_
        refine wp_ret rfl rfl rfl ?_
        first
        | (exfalso; omega)
        | exact ⟨rfl, rfl, hI⟩
        | exact ⟨rfl, by rw [hw9, up_ne (by decide), up_ne (by decide)], by rw [hw9, hw1]; exact refW_inv hI (by decide)⟩
  · skip
    rw [hv1, hw9]
    clear hv1 hw9 v1 w9
    dsimp only [Option.toList, List.cons_append, List.nil_append, List.append_nil]
    refine wp_if_eq (pc' := 7) (pt := 13) rfl rfl rfl (fun q_166 => ?_) (fun q_166 => absurd (by decide) q_166)
    refine wp_iconst (a := -1) (pc' := 14) rfl rfl rfl ?_
    refine wp_ret rfl rfl rfl ?_
    refine ⟨_, rfl, ?_, ?_⟩
    · first | exact e2 | rfl
    refine wp_iload_n (pc' := 1) rfl rfl rfl ?_
    refine wp_call (pc' := 4) rfl rfl rfl rfl rfl ⟨Nat.le_of_ble_eq_true rfl, Nat.le_of_ble_eq_true rfl, Nat.le_of_ble_eq_true rfl, Nat.le_of_ble_eq_true rfl, Nat.le_of_ble_eq_true rfl⟩ rfl (c_Mod_isText) ?_
    rintro v1 w9 ⟨hw9, ⟨hv1, hb1⟩ | ⟨hv1, hb1⟩⟩
    · skip
      rw [hv1, hw9]
      clear hv1 hw9 v1 w9
      dsimp only [Option.toList, List.cons_append, List.nil_append, List.append_nil]
      refine wp_if_eq (pc' := 7) (pt := 13) rfl rfl rfl (fun q_217 => absurd q_217 (by decide)) (fun q_217 => ?_)
      refine wp_iload_n (pc' := 8) rfl rfl rfl ?_
      refine wp_bipush (a := 60) (pc' := 10) rfl rfl rfl ?_
      refine wp_icmp_le (pc' := 13) (pt := 15) rfl rfl rfl (fun q_218 => ?_) (fun q_218 => ?_)
      · skip
        refine wp_iload_n (pc' := 16) rfl rfl rfl ?_
        refine wp_if_ge (pc' := 19) (pt := 25) rfl rfl rfl (fun q_219 => ?_) (fun q_219 => ?_)
        · skip
          refine wp_aload_n (pc' := 26) rfl rfl rfl (by decide) ?_
          refine wp_getR (r' := 105) (ci := 10) (k0 := 8) (pc' := 29) rfl rfl (by decide) (by first | assumption | rfl) (hT.get 103 rfl) ?_
          refine wp_iload_n (pc' := 30) rfl rfl rfl ?_
          refine wp_iload_n (pc' := 31) rfl rfl rfl ?_
          refine wp_iastore (pc' := 32) rfl rfl (by first | assumption | rfl) (by omega) ?_
          refine wp_iconst (a := 0) (pc' := 33) rfl rfl rfl ?_
          refine wp_istore_n (pc' := 34) rfl rfl (Nat.le_of_ble_eq_true rfl) rfl ?_
          dsimp only [lset, lset2, List.set, List.getElem?_cons_zero, List.getElem?_cons_succ]
          first
          | (exfalso; omega)
          | (refine WP.mono (l_Mtext (w := up w1 105 r n) (hT.putA (by decide)) hb1 60 0 _ (by omega) (by omega) (Same.rf _ _) (fun j a b => by omega) (fun z hz => rfl)) (fun v2 w3 h3 => ?_)
             obtain ⟨hv3, hS3, hz3, ho3⟩ := h3
             have hSF : SameF w w3 [66 + 2 * r, 105, 106] [(65 + 2 * r, 1)] := ((hS.mono (by simp) (by simp)).put (Or.inl (by simp))).tr ((hS3.mono (by simp)).F _)
             have e1 : ∀ q : Int, q ≠ 106 → q ≠ 105 → w3 q = w1 q := fun q a b => by rw [hS3 q (by simpa using a), up_ne b]
             have e3 : w3 105 = (up w1 105 r n) 105 := hS3 105 (by decide)
             have e4 : ∀ q k : Int, q ≠ 65 + 2 * r → q ≠ 66 + 2 * r → w1 q k = w q k := fun q k a b => hS q k (by simpa using b) (by simp; omega)
             refine ⟨hv3, by rw [e1 _ (by decide) (by decide)], hI.texts hb1.1 hb1.2 hSF ⟨?_, ?_, ?_⟩ ?_⟩
             · rw [e1 _ (by omega) (by omega), e3, up_eq]; exact hn1
             · rw [e3, up_eq]; omega
             · intro j a b
               rw [e3, up_eq] at b
               rw [e1 _ (by omega) (by omega), hz1 j a b, hz3 j a (by omega)]
               exact ⟨rfl, by decide, by decide⟩
             · intro q a b hq
               refine ⟨by rw [e3, up_at hq, e4 _ _ (by omega) (by omega)], fun j x y => ?_⟩
               rw [ho3 _ (by omega), up_ne (by decide), e4 _ _ (by omega) (by omega)])
        · skip
          refine wp_aload_n (pc' := 20) rfl rfl rfl (by decide) ?_
          refine wp_iconst (a := 5) (pc' := 21) rfl rfl rfl ?_
          refine wp_call (pc' := 24) rfl rfl rfl rfl rfl ⟨Nat.le_of_ble_eq_true rfl, Nat.le_of_ble_eq_true rfl, Nat.le_of_ble_eq_true rfl, Nat.le_of_ble_eq_true rfl, Nat.le_of_ble_eq_true rfl⟩ rfl (c_Mod_meets hT (by decide)) ?_
          rintro v1 w9 ⟨hv1, hw9⟩
          rw [hv1]
          clear hv1 v1
          dsimp only [Option.toList, List.cons_append, List.nil_append, List.append_nil]
          refine wp_ret rfl rfl rfl ?_
          first
          | (exfalso; omega)
          | exact ⟨rfl, rfl, hI⟩
          | exact ⟨rfl, by rw [hw9, up_ne (by decide), up_ne (by decide)], by rw [hw9, hw1]; exact refW_inv hI (by decide)⟩
      · skip
        refine wp_iconst (a := -1) (pc' := 14) rfl rfl rfl ?_
        refine wp_ret rfl rfl rfl ?_
        first
        | (exfalso; omega)
        | exact ⟨rfl, rfl, hI⟩
        | exact ⟨rfl, by rw [hw9, up_ne (by decide), up_ne (by decide)], by rw [hw9, hw1]; exact refW_inv hI (by decide)⟩
    · skip
      rw [hv1, hw9]
      clear hv1 hw9 v1 w9
      dsimp only [Option.toList, List.cons_append, List.nil_append, List.append_nil]
      refine wp_if_eq (pc' := 7) (pt := 13) rfl rfl rfl (fun q_220 => ?_) (fun q_220 => absurd (by decide) q_220)
      refine wp_iconst (a := -1) (pc' := 14) rfl rfl rfl ?_
      refine wp_ret rfl rfl rfl ?_
      first
      | (exfalso; omega)
      | exact ⟨rfl, rfl, hI⟩
      | exact ⟨rfl, by rw [hw9, up_ne (by decide), up_ne (by decide)], by rw [hw9, hw1]; exact refW_inv hI (by decide)⟩
set_option maxRecDepth 20000 in
set_option maxHeartbeats 4000000 in
theorem p_put {w : Hp} {d : Nat} {r : Int} {i : Int} {v : Int} (hI : Inv w) : WP SH (d + 9) 87 0 [some (vR 0), some (vI r), some (vI i), some (vI v), none, none] [] w (fun v0 w1 => ∃ a, v0 = some (vI a) ∧ w1 (-2) = w (-2) ∧ WP SH (d + 9) 158 0 [some (vR 100), some (vI r), some (vI i), some (vI v), none] [] w1 (fun v2 w2 => v2 = some (vI a) ∧ w2 (-2) = w1 (-2) ∧ Inv w2)) := by
  obtain ⟨hT, hRO, hIF, hITo, hIR, hIT, hIL, hIK⟩ := id hI
  refine wp_iload_n (pc' := 1) rfl rfl rfl ?_
  refine wp_call (pc' := 4) rfl rfl rfl rfl rfl ⟨Nat.le_of_ble_eq_true rfl, Nat.le_of_ble_eq_true rfl, Nat.le_of_ble_eq_true rfl, Nat.le_of_ble_eq_true rfl, Nat.le_of_ble_eq_true rfl⟩ rfl (c_VH_isText) ?_
  rintro v1 w9 ⟨hw9, ⟨hv1, hb1⟩ | ⟨hv1, hb1⟩⟩
  · skip
    rw [hv1, hw9]
    clear hv1 hw9 v1 w9
    have hst := strip_text hT hb1.1 hb1.2
    have hs7 := hst.1.1
    have hs1 := hst.1.2.1
    have hir := hIT r hb1.1 hb1.2
    have hbr := hb1
    dsimp only [Option.toList, List.cons_append, List.nil_append, List.append_nil]
    refine wp_if_eq (pc' := 7) (pt := 21) rfl rfl rfl (fun q_1 => absurd q_1 (by decide)) (fun q_1 => ?_)
    refine wp_aload_n (pc' := 8) rfl rfl rfl (by decide) ?_
    refine wp_aload_n (pc' := 9) rfl rfl rfl (by decide) ?_
    refine wp_getR (r' := 2) (ci := 9) (k0 := 1) (pc' := 12) rfl rfl (by decide) (by first | assumption | rfl) (hT.get 1 rfl) ?_
    refine wp_iload_n (pc' := 13) rfl rfl rfl ?_
    refine wp_aaload (r' := (65 + 2 * r)) (pc' := 14) rfl rfl (by first | assumption | rfl) rfl (by omega) (hst.2) ?_
    refine wp_iload_n (pc' := 15) rfl rfl rfl ?_
    refine wp_call (pc' := 18) rfl rfl rfl rfl rfl ⟨Nat.le_of_ble_eq_true rfl, Nat.le_of_ble_eq_true rfl, Nat.le_of_ble_eq_true rfl, Nat.le_of_ble_eq_true rfl, Nat.le_of_ble_eq_true rfl⟩ rfl (c_VH_placeRefusal (w := w) hT hst.1) ?_
    rintro v1 w1 (⟨hv1, hp1, hw1⟩ | ⟨hv1, hp1, hp2, hw1⟩ | ⟨hv1, hp1, hp2, hp3, hw1⟩)
    · skip
      rw [hv1]
      clear hv1 v1
      have hT := (by rw [hw1]; exact refW_stc hT : Stc w1)
      have e2 : w1 (-2) = w (-2) := by rw [hw1]; exact refW_ne (by decide) (by decide)
      have e105 : w1 105 r = w 105 r := by rw [hw1, refW_ne (by decide) (by decide)]
      dsimp only [Option.toList, List.cons_append, List.nil_append, List.append_nil]
      refine wp_goto (pc' := 22) rfl rfl ?_
      refine wp_istore (pc' := 24) rfl rfl (Nat.le_of_ble_eq_true rfl) rfl ?_
      dsimp only [lset, lset2, List.set, List.getElem?_cons_zero, List.getElem?_cons_succ]
      refine wp_iload (pc' := 26) rfl rfl rfl ?_
      refine wp_if_eq (pc' := 29) (pt := 32) rfl rfl rfl (fun q_2 => absurd q_2 (by decide)) (fun q_2 => ?_)
      refine wp_iload (pc' := 31) rfl rfl rfl ?_
      refine wp_ret rfl rfl rfl ?_
      refine ⟨_, rfl, ?_, ?_⟩
      · first | exact e2 | rfl
      refine wp_iload_n (pc' := 1) rfl rfl rfl ?_
      refine wp_call (pc' := 4) rfl rfl rfl rfl rfl ⟨Nat.le_of_ble_eq_true rfl, Nat.le_of_ble_eq_true rfl, Nat.le_of_ble_eq_true rfl, Nat.le_of_ble_eq_true rfl, Nat.le_of_ble_eq_true rfl⟩ rfl (c_Mod_isText) ?_
      rintro v1 w9 ⟨hw9, ⟨hv1, hb1⟩ | ⟨hv1, hb1⟩⟩
      · skip
        rw [hv1, hw9]
        clear hv1 hw9 v1 w9
        dsimp only [Option.toList, List.cons_append, List.nil_append, List.append_nil]
        refine wp_if_ne (pc' := 7) (pt := 9) rfl rfl rfl (fun q_53 => ?_) (fun q_53 => absurd (by decide) q_53)
        refine wp_aload_n (pc' := 10) rfl rfl rfl (by decide) ?_
        refine wp_getR (r' := 105) (ci := 10) (k0 := 8) (pc' := 13) rfl rfl (by decide) (by first | assumption | rfl) (hT.get 103 rfl) ?_
        refine wp_iload_n (pc' := 14) rfl rfl rfl ?_
        refine wp_iaload (pc' := 15) rfl rfl (by first | assumption | rfl) (by omega) ?_
        refine wp_if_ge (pc' := 18) (pt := 24) rfl rfl rfl (fun q_54 => ?_) (fun q_54 => ?_)
        · skip
          refine wp_iload_n (pc' := 25) rfl rfl rfl ?_
          refine wp_iconst (a := 0) (pc' := 26) rfl rfl rfl ?_
          refine wp_aload_n (pc' := 27) rfl rfl rfl (by decide) ?_
          refine wp_getR (r' := 105) (ci := 10) (k0 := 8) (pc' := 30) rfl rfl (by decide) (by first | assumption | rfl) (hT.get 103 rfl) ?_
          refine wp_iload_n (pc' := 31) rfl rfl rfl ?_
          refine wp_iaload (pc' := 32) rfl rfl (by first | assumption | rfl) (by omega) ?_
          refine wp_iconst (a := 1) (pc' := 33) rfl rfl rfl ?_
          refine wp_isub (pc' := 34) rfl rfl (by first | exact w32_id (by omega) (by omega) | rfl) ?_
          refine wp_call (pc' := 37) rfl rfl rfl rfl rfl ⟨Nat.le_of_ble_eq_true rfl, Nat.le_of_ble_eq_true rfl, Nat.le_of_ble_eq_true rfl, Nat.le_of_ble_eq_true rfl, Nat.le_of_ble_eq_true rfl⟩ rfl (c_Mod_in) ?_
          rintro v1 w9 ⟨hw9, ⟨hv1, hb1⟩ | ⟨hv1, hb1⟩⟩
          · skip
            rw [hv1, hw9]
            clear hv1 hw9 v1 w9
            dsimp only [Option.toList, List.cons_append, List.nil_append, List.append_nil]
            refine wp_if_ne (pc' := 40) (pt := 46) rfl rfl rfl (fun q_55 => ?_) (fun q_55 => absurd (by decide) q_55)
            refine wp_aload_n (pc' := 47) rfl rfl rfl (by decide) ?_
            refine wp_getR (r' := 106) (ci := 10) (k0 := 9) (pc' := 50) rfl rfl (by decide) (by first | assumption | rfl) (hT.get 104 rfl) ?_
            refine wp_bipush (a := 60) (pc' := 52) rfl rfl rfl ?_
            refine wp_iload_n (pc' := 53) rfl rfl rfl ?_
            refine wp_imul (pc' := 54) rfl rfl (by first | exact w32_id (by omega) (by omega) | rfl) ?_
            refine wp_iload_n (pc' := 55) rfl rfl rfl ?_
            refine wp_iadd (pc' := 56) rfl rfl (by first | exact w32_id (by omega) (by omega) | rfl) ?_
            refine wp_baload (pc' := 57) rfl rfl (by first | assumption | rfl) rfl (by omega) ?_
            refine wp_istore (pc' := 59) rfl rfl (Nat.le_of_ble_eq_true rfl) rfl ?_
            dsimp only [lset, lset2, List.set, List.getElem?_cons_zero, List.getElem?_cons_succ]
            refine wp_aload_n (pc' := 60) rfl rfl rfl (by decide) ?_
            refine wp_getR (r' := 106) (ci := 10) (k0 := 9) (pc' := 63) rfl rfl (by decide) (by first | assumption | rfl) (hT.get 104 rfl) ?_
            refine wp_bipush (a := 60) (pc' := 65) rfl rfl rfl ?_
            refine wp_iload_n (pc' := 66) rfl rfl rfl ?_
            refine wp_imul (pc' := 67) rfl rfl (by first | exact w32_id (by omega) (by omega) | rfl) ?_
            refine wp_iload_n (pc' := 68) rfl rfl rfl ?_
            refine wp_iadd (pc' := 69) rfl rfl (by first | exact w32_id (by omega) (by omega) | rfl) ?_
            refine wp_iload_n (pc' := 70) rfl rfl rfl ?_
            refine wp_i2b (pc' := 71) rfl rfl rfl ?_
            refine wp_bastoreB (pc' := 72) rfl rfl rfl (by omega) ?_
            refine wp_sipush (a := 1000) (pc' := 75) rfl rfl rfl ?_
            refine wp_iload (pc' := 77) rfl rfl rfl ?_
            refine wp_iadd (pc' := 78) rfl rfl (by first | exact w32_id (by omega) (by omega) | rfl) ?_
            refine wp_ret rfl rfl rfl ?_
            first
            | (exfalso; omega)
            | exact ⟨rfl, rfl, hI⟩
            | exact ⟨rfl, by rw [hw9, up_ne (by decide), up_ne (by decide)], by rw [hw9, hw1]; exact refW_inv hI (by decide)⟩
            | (obtain ⟨hir1, hir2, hir3⟩ := hir
               refine ⟨congrArg (fun z => some (vI z)) (by omega), by rw [up_ne (by decide)], hI.texts hbr.1 hbr.2 (w' := up w1 106 (60 * r + i) (iB (iB v))) ?_ ⟨?_, ?_, ?_⟩ ?_⟩
               · rw [hw1]
                 exact ((SameF.rf w _ _).put (Or.inl (by simp))).put (Or.inl (by simp))
               · rw [up_ne (by omega), up_ne (by decide), eo 105 (by omega), eo (65 + 2 * r) (by omega)]
                 exact hir1
               · rw [up_ne (by decide), e105]
                 exact hir2
               · intro j a b
                 rw [up_ne (by decide), e105] at b
                 rw [up_ne (show (66 + 2 * r : Int) ≠ 106 by omega)]
                 by_cases hj : j = i
                 · rw [hj, up_eq, hw1, up_eq, iB_iB]
                   exact ⟨rfl, hib⟩
                 · rw [up_at (show 60 * r + j ≠ 60 * r + i by omega), eo 106 (by omega), hw1, up_at hj]
                   exact hir3 j a b
               · intro q a b hq
                 rw [up_ne (show (105 : Int) ≠ 106 by decide), eo 105 (by omega)]
                 refine ⟨rfl, fun j x y => ?_⟩
                 rw [up_at (show 60 * q + j ≠ 60 * r + i by omega), eo 106 (by omega)])
          · skip
            rw [hv1, hw9]
            clear hv1 hw9 v1 w9
            dsimp only [Option.toList, List.cons_append, List.nil_append, List.append_nil]
            refine wp_if_ne (pc' := 40) (pt := 46) rfl rfl rfl (fun q_56 => absurd q_56 (by decide)) (fun q_56 => ?_)
            refine wp_aload_n (pc' := 41) rfl rfl rfl (by decide) ?_
            refine wp_iconst (a := 2) (pc' := 42) rfl rfl rfl ?_
            refine wp_call (pc' := 45) rfl rfl rfl rfl rfl ⟨Nat.le_of_ble_eq_true rfl, Nat.le_of_ble_eq_true rfl, Nat.le_of_ble_eq_true rfl, Nat.le_of_ble_eq_true rfl, Nat.le_of_ble_eq_true rfl⟩ rfl (c_Mod_meets hT (by decide)) ?_
            rintro v1 w9 ⟨hv1, hw9⟩
            rw [hv1]
            clear hv1 v1
            dsimp only [Option.toList, List.cons_append, List.nil_append, List.append_nil]
            refine wp_ret rfl rfl rfl ?_
            first
            | (exfalso; omega)
            | exact ⟨rfl, rfl, hI⟩
            | exact ⟨rfl, by rw [hw9, up_ne (by decide), up_ne (by decide)], by rw [hw9, hw1]; exact refW_inv hI (by decide)⟩
            | (obtain ⟨hir1, hir2, hir3⟩ := hir
               refine ⟨congrArg (fun z => some (vI z)) (by omega), by rw [up_ne (by decide)], hI.texts hbr.1 hbr.2 (w' := up w1 106 (60 * r + i) (iB (iB v))) ?_ ⟨?_, ?_, ?_⟩ ?_⟩
               · rw [hw1]
                 exact ((SameF.rf w _ _).put (Or.inl (by simp))).put (Or.inl (by simp))
               · rw [up_ne (by omega), up_ne (by decide), eo 105 (by omega), eo (65 + 2 * r) (by omega)]
                 exact hir1
               · rw [up_ne (by decide), e105]
                 exact hir2
               · intro j a b
                 rw [up_ne (by decide), e105] at b
                 rw [up_ne (show (66 + 2 * r : Int) ≠ 106 by omega)]
                 by_cases hj : j = i
                 · rw [hj, up_eq, hw1, up_eq, iB_iB]
                   exact ⟨rfl, hib⟩
                 · rw [up_at (show 60 * r + j ≠ 60 * r + i by omega), eo 106 (by omega), hw1, up_at hj]
                   exact hir3 j a b
               · intro q a b hq
                 rw [up_ne (show (105 : Int) ≠ 106 by decide), eo 105 (by omega)]
                 refine ⟨rfl, fun j x y => ?_⟩
                 rw [up_at (show 60 * q + j ≠ 60 * r + i by omega), eo 106 (by omega)])
        · skip
          refine wp_aload_n (pc' := 19) rfl rfl rfl (by decide) ?_
          refine wp_iconst (a := 1) (pc' := 20) rfl rfl rfl ?_
          refine wp_call (pc' := 23) rfl rfl rfl rfl rfl ⟨Nat.le_of_ble_eq_true rfl, Nat.le_of_ble_eq_true rfl, Nat.le_of_ble_eq_true rfl, Nat.le_of_ble_eq_true rfl, Nat.le_of_ble_eq_true rfl⟩ rfl (c_Mod_meets hT (by decide)) ?_
          rintro v1 w9 ⟨hv1, hw9⟩
          rw [hv1]
          clear hv1 v1
          dsimp only [Option.toList, List.cons_append, List.nil_append, List.append_nil]
          refine wp_ret rfl rfl rfl ?_
          first
          | (exfalso; omega)
          | exact ⟨rfl, rfl, hI⟩
          | exact ⟨rfl, by rw [hw9, up_ne (by decide), up_ne (by decide)], by rw [hw9, hw1]; exact refW_inv hI (by decide)⟩
          | (obtain ⟨hir1, hir2, hir3⟩ := hir
             refine ⟨congrArg (fun z => some (vI z)) (by omega), by rw [up_ne (by decide)], hI.texts hbr.1 hbr.2 (w' := up w1 106 (60 * r + i) (iB (iB v))) ?_ ⟨?_, ?_, ?_⟩ ?_⟩
             · rw [hw1]
               exact ((SameF.rf w _ _).put (Or.inl (by simp))).put (Or.inl (by simp))
             · rw [up_ne (by omega), up_ne (by decide), eo 105 (by omega), eo (65 + 2 * r) (by omega)]
               exact hir1
             · rw [up_ne (by decide), e105]
               exact hir2
             · intro j a b
               rw [up_ne (by decide), e105] at b
               rw [up_ne (show (66 + 2 * r : Int) ≠ 106 by omega)]
               by_cases hj : j = i
               · rw [hj, up_eq, hw1, up_eq, iB_iB]
                 exact ⟨rfl, hib⟩
               · rw [up_at (show 60 * r + j ≠ 60 * r + i by omega), eo 106 (by omega), hw1, up_at hj]
                 exact hir3 j a b
             · intro q a b hq
               rw [up_ne (show (105 : Int) ≠ 106 by decide), eo 105 (by omega)]
               refine ⟨rfl, fun j x y => ?_⟩
               rw [up_at (show 60 * q + j ≠ 60 * r + i by omega), eo 106 (by omega)])
      · skip
        rw [hv1, hw9]
        clear hv1 hw9 v1 w9
        dsimp only [Option.toList, List.cons_append, List.nil_append, List.append_nil]
        refine wp_if_ne (pc' := 7) (pt := 9) rfl rfl rfl (fun q_57 => absurd q_57 (by decide)) (fun q_57 => ?_)
        refine wp_iconst (a := -1) (pc' := 8) rfl rfl rfl ?_
        refine wp_ret rfl rfl rfl ?_
        first
        | (exfalso; omega)
        | exact ⟨rfl, rfl, hI⟩
        | exact ⟨rfl, by rw [hw9, up_ne (by decide), up_ne (by decide)], by rw [hw9, hw1]; exact refW_inv hI (by decide)⟩
        | (obtain ⟨hir1, hir2, hir3⟩ := hir
           refine ⟨congrArg (fun z => some (vI z)) (by omega), by rw [up_ne (by decide)], hI.texts hbr.1 hbr.2 (w' := up w1 106 (60 * r + i) (iB (iB v))) ?_ ⟨?_, ?_, ?_⟩ ?_⟩
           · rw [hw1]
             exact ((SameF.rf w _ _).put (Or.inl (by simp))).put (Or.inl (by simp))
           · rw [up_ne (by omega), up_ne (by decide), eo 105 (by omega), eo (65 + 2 * r) (by omega)]
             exact hir1
           · rw [up_ne (by decide), e105]
             exact hir2
           · intro j a b
             rw [up_ne (by decide), e105] at b
             rw [up_ne (show (66 + 2 * r : Int) ≠ 106 by omega)]
             by_cases hj : j = i
             · rw [hj, up_eq, hw1, up_eq, iB_iB]
               exact ⟨rfl, hib⟩
             · rw [up_at (show 60 * r + j ≠ 60 * r + i by omega), eo 106 (by omega), hw1, up_at hj]
               exact hir3 j a b
           · intro q a b hq
             rw [up_ne (show (105 : Int) ≠ 106 by decide), eo 105 (by omega)]
             refine ⟨rfl, fun j x y => ?_⟩
             rw [up_at (show 60 * q + j ≠ 60 * r + i by omega), eo 106 (by omega)])
    · skip
      rw [hv1]
      clear hv1 v1
      have hT := (by rw [hw1]; exact refW_stc hT : Stc w1)
      have e2 : w1 (-2) = w (-2) := by rw [hw1]; exact refW_ne (by decide) (by decide)
      have e105 : w1 105 r = w 105 r := by rw [hw1, refW_ne (by decide) (by decide)]
      dsimp only [Option.toList, List.cons_append, List.nil_append, List.append_nil]
      refine wp_goto (pc' := 22) rfl rfl ?_
      refine wp_istore (pc' := 24) rfl rfl (Nat.le_of_ble_eq_true rfl) rfl ?_
      dsimp only [lset, lset2, List.set, List.getElem?_cons_zero, List.getElem?_cons_succ]
      refine wp_iload (pc' := 26) rfl rfl rfl ?_
      refine wp_if_eq (pc' := 29) (pt := 32) rfl rfl rfl (fun q_58 => absurd q_58 (by decide)) (fun q_58 => ?_)
      refine wp_iload (pc' := 31) rfl rfl rfl ?_
      refine wp_ret rfl rfl rfl ?_
      refine ⟨_, rfl, ?_, ?_⟩
      · first | exact e2 | rfl
      refine wp_iload_n (pc' := 1) rfl rfl rfl ?_
      refine wp_call (pc' := 4) rfl rfl rfl rfl rfl ⟨Nat.le_of_ble_eq_true rfl, Nat.le_of_ble_eq_true rfl, Nat.le_of_ble_eq_true rfl, Nat.le_of_ble_eq_true rfl, Nat.le_of_ble_eq_true rfl⟩ rfl (c_Mod_isText) ?_
      rintro v1 w9 ⟨hw9, ⟨hv1, hb1⟩ | ⟨hv1, hb1⟩⟩
      · skip
        rw [hv1, hw9]
        clear hv1 hw9 v1 w9
        dsimp only [Option.toList, List.cons_append, List.nil_append, List.append_nil]
        refine wp_if_ne (pc' := 7) (pt := 9) rfl rfl rfl (fun q_109 => ?_) (fun q_109 => absurd (by decide) q_109)
        refine wp_aload_n (pc' := 10) rfl rfl rfl (by decide) ?_
        refine wp_getR (r' := 105) (ci := 10) (k0 := 8) (pc' := 13) rfl rfl (by decide) (by first | assumption | rfl) (hT.get 103 rfl) ?_
        refine wp_iload_n (pc' := 14) rfl rfl rfl ?_
        refine wp_iaload (pc' := 15) rfl rfl (by first | assumption | rfl) (by omega) ?_
        refine wp_if_ge (pc' := 18) (pt := 24) rfl rfl rfl (fun q_110 => ?_) (fun q_110 => ?_)
        · skip
          refine wp_iload_n (pc' := 25) rfl rfl rfl ?_
          refine wp_iconst (a := 0) (pc' := 26) rfl rfl rfl ?_
          refine wp_aload_n (pc' := 27) rfl rfl rfl (by decide) ?_
          refine wp_getR (r' := 105) (ci := 10) (k0 := 8) (pc' := 30) rfl rfl (by decide) (by first | assumption | rfl) (hT.get 103 rfl) ?_
          refine wp_iload_n (pc' := 31) rfl rfl rfl ?_
          refine wp_iaload (pc' := 32) rfl rfl (by first | assumption | rfl) (by omega) ?_
          refine wp_iconst (a := 1) (pc' := 33) rfl rfl rfl ?_
          refine wp_isub (pc' := 34) rfl rfl (by first | exact w32_id (by omega) (by omega) | rfl) ?_
          refine wp_call (pc' := 37) rfl rfl rfl rfl rfl ⟨Nat.le_of_ble_eq_true rfl, Nat.le_of_ble_eq_true rfl, Nat.le_of_ble_eq_true rfl, Nat.le_of_ble_eq_true rfl, Nat.le_of_ble_eq_true rfl⟩ rfl (c_Mod_in) ?_
          rintro v1 w9 ⟨hw9, ⟨hv1, hb1⟩ | ⟨hv1, hb1⟩⟩
          · skip
            rw [hv1, hw9]
            clear hv1 hw9 v1 w9
            dsimp only [Option.toList, List.cons_append, List.nil_append, List.append_nil]
            refine wp_if_ne (pc' := 40) (pt := 46) rfl rfl rfl (fun q_111 => ?_) (fun q_111 => absurd (by decide) q_111)
            refine wp_aload_n (pc' := 47) rfl rfl rfl (by decide) ?_
            refine wp_getR (r' := 106) (ci := 10) (k0 := 9) (pc' := 50) rfl rfl (by decide) (by first | assumption | rfl) (hT.get 104 rfl) ?_
            refine wp_bipush (a := 60) (pc' := 52) rfl rfl rfl ?_
            refine wp_iload_n (pc' := 53) rfl rfl rfl ?_
            refine wp_imul (pc' := 54) rfl rfl (by first | exact w32_id (by omega) (by omega) | rfl) ?_
            refine wp_iload_n (pc' := 55) rfl rfl rfl ?_
            refine wp_iadd (pc' := 56) rfl rfl (by first | exact w32_id (by omega) (by omega) | rfl) ?_
            refine wp_baload (pc' := 57) rfl rfl (by first | assumption | rfl) rfl (by omega) ?_
            refine wp_istore (pc' := 59) rfl rfl (Nat.le_of_ble_eq_true rfl) rfl ?_
            dsimp only [lset, lset2, List.set, List.getElem?_cons_zero, List.getElem?_cons_succ]
            refine wp_aload_n (pc' := 60) rfl rfl rfl (by decide) ?_
            refine wp_getR (r' := 106) (ci := 10) (k0 := 9) (pc' := 63) rfl rfl (by decide) (by first | assumption | rfl) (hT.get 104 rfl) ?_
            refine wp_bipush (a := 60) (pc' := 65) rfl rfl rfl ?_
            refine wp_iload_n (pc' := 66) rfl rfl rfl ?_
            refine wp_imul (pc' := 67) rfl rfl (by first | exact w32_id (by omega) (by omega) | rfl) ?_
            refine wp_iload_n (pc' := 68) rfl rfl rfl ?_
            refine wp_iadd (pc' := 69) rfl rfl (by first | exact w32_id (by omega) (by omega) | rfl) ?_
            refine wp_iload_n (pc' := 70) rfl rfl rfl ?_
            refine wp_i2b (pc' := 71) rfl rfl rfl ?_
            refine wp_bastoreB (pc' := 72) rfl rfl rfl (by omega) ?_
            refine wp_sipush (a := 1000) (pc' := 75) rfl rfl rfl ?_
            refine wp_iload (pc' := 77) rfl rfl rfl ?_
            refine wp_iadd (pc' := 78) rfl rfl (by first | exact w32_id (by omega) (by omega) | rfl) ?_
            refine wp_ret rfl rfl rfl ?_
            first
            | (exfalso; omega)
            | exact ⟨rfl, rfl, hI⟩
            | exact ⟨rfl, by rw [hw9, up_ne (by decide), up_ne (by decide)], by rw [hw9, hw1]; exact refW_inv hI (by decide)⟩
            | (obtain ⟨hir1, hir2, hir3⟩ := hir
               refine ⟨congrArg (fun z => some (vI z)) (by omega), by rw [up_ne (by decide)], hI.texts hbr.1 hbr.2 (w' := up w1 106 (60 * r + i) (iB (iB v))) ?_ ⟨?_, ?_, ?_⟩ ?_⟩
               · rw [hw1]
                 exact ((SameF.rf w _ _).put (Or.inl (by simp))).put (Or.inl (by simp))
               · rw [up_ne (by omega), up_ne (by decide), eo 105 (by omega), eo (65 + 2 * r) (by omega)]
                 exact hir1
               · rw [up_ne (by decide), e105]
                 exact hir2
               · intro j a b
                 rw [up_ne (by decide), e105] at b
                 rw [up_ne (show (66 + 2 * r : Int) ≠ 106 by omega)]
                 by_cases hj : j = i
                 · rw [hj, up_eq, hw1, up_eq, iB_iB]
                   exact ⟨rfl, hib⟩
                 · rw [up_at (show 60 * r + j ≠ 60 * r + i by omega), eo 106 (by omega), hw1, up_at hj]
                   exact hir3 j a b
               · intro q a b hq
                 rw [up_ne (show (105 : Int) ≠ 106 by decide), eo 105 (by omega)]
                 refine ⟨rfl, fun j x y => ?_⟩
                 rw [up_at (show 60 * q + j ≠ 60 * r + i by omega), eo 106 (by omega)])
          · skip
            rw [hv1, hw9]
            clear hv1 hw9 v1 w9
            dsimp only [Option.toList, List.cons_append, List.nil_append, List.append_nil]
            refine wp_if_ne (pc' := 40) (pt := 46) rfl rfl rfl (fun q_112 => absurd q_112 (by decide)) (fun q_112 => ?_)
            refine wp_aload_n (pc' := 41) rfl rfl rfl (by decide) ?_
            refine wp_iconst (a := 2) (pc' := 42) rfl rfl rfl ?_
            refine wp_call (pc' := 45) rfl rfl rfl rfl rfl ⟨Nat.le_of_ble_eq_true rfl, Nat.le_of_ble_eq_true rfl, Nat.le_of_ble_eq_true rfl, Nat.le_of_ble_eq_true rfl, Nat.le_of_ble_eq_true rfl⟩ rfl (c_Mod_meets hT (by decide)) ?_
            rintro v1 w9 ⟨hv1, hw9⟩
            rw [hv1]
            clear hv1 v1
            dsimp only [Option.toList, List.cons_append, List.nil_append, List.append_nil]
            refine wp_ret rfl rfl rfl ?_
            first
            | (exfalso; omega)
            | exact ⟨rfl, rfl, hI⟩
            | exact ⟨rfl, by rw [hw9, up_ne (by decide), up_ne (by decide)], by rw [hw9, hw1]; exact refW_inv hI (by decide)⟩
            | (obtain ⟨hir1, hir2, hir3⟩ := hir
               refine ⟨congrArg (fun z => some (vI z)) (by omega), by rw [up_ne (by decide)], hI.texts hbr.1 hbr.2 (w' := up w1 106 (60 * r + i) (iB (iB v))) ?_ ⟨?_, ?_, ?_⟩ ?_⟩
               · rw [hw1]
                 exact ((SameF.rf w _ _).put (Or.inl (by simp))).put (Or.inl (by simp))
               · rw [up_ne (by omega), up_ne (by decide), eo 105 (by omega), eo (65 + 2 * r) (by omega)]
                 exact hir1
               · rw [up_ne (by decide), e105]
                 exact hir2
               · intro j a b
                 rw [up_ne (by decide), e105] at b
                 rw [up_ne (show (66 + 2 * r : Int) ≠ 106 by omega)]
                 by_cases hj : j = i
                 · rw [hj, up_eq, hw1, up_eq, iB_iB]
                   exact ⟨rfl, hib⟩
                 · rw [up_at (show 60 * r + j ≠ 60 * r + i by omega), eo 106 (by omega), hw1, up_at hj]
                   exact hir3 j a b
               · intro q a b hq
                 rw [up_ne (show (105 : Int) ≠ 106 by decide), eo 105 (by omega)]
                 refine ⟨rfl, fun j x y => ?_⟩
                 rw [up_at (show 60 * q + j ≠ 60 * r + i by omega), eo 106 (by omega)])
        · skip
          refine wp_aload_n (pc' := 19) rfl rfl rfl (by decide) ?_
          refine wp_iconst (a := 1) (pc' := 20) rfl rfl rfl ?_
          refine wp_call (pc' := 23) rfl rfl rfl rfl rfl ⟨Nat.le_of_ble_eq_true rfl, Nat.le_of_ble_eq_true rfl, Nat.le_of_ble_eq_true rfl, Nat.le_of_ble_eq_true rfl, Nat.le_of_ble_eq_true rfl⟩ rfl (c_Mod_meets hT (by decide)) ?_
          rintro v1 w9 ⟨hv1, hw9⟩
          rw [hv1]
          clear hv1 v1
          dsimp only [Option.toList, List.cons_append, List.nil_append, List.append_nil]
          refine wp_ret rfl rfl rfl ?_
          first
          | (exfalso; omega)
          | exact ⟨rfl, rfl, hI⟩
          | exact ⟨rfl, by rw [hw9, up_ne (by decide), up_ne (by decide)], by rw [hw9, hw1]; exact refW_inv hI (by decide)⟩
          | (obtain ⟨hir1, hir2, hir3⟩ := hir
             refine ⟨congrArg (fun z => some (vI z)) (by omega), by rw [up_ne (by decide)], hI.texts hbr.1 hbr.2 (w' := up w1 106 (60 * r + i) (iB (iB v))) ?_ ⟨?_, ?_, ?_⟩ ?_⟩
             · rw [hw1]
               exact ((SameF.rf w _ _).put (Or.inl (by simp))).put (Or.inl (by simp))
             · rw [up_ne (by omega), up_ne (by decide), eo 105 (by omega), eo (65 + 2 * r) (by omega)]
               exact hir1
             · rw [up_ne (by decide), e105]
               exact hir2
             · intro j a b
               rw [up_ne (by decide), e105] at b
               rw [up_ne (show (66 + 2 * r : Int) ≠ 106 by omega)]
               by_cases hj : j = i
               · rw [hj, up_eq, hw1, up_eq, iB_iB]
                 exact ⟨rfl, hib⟩
               · rw [up_at (show 60 * r + j ≠ 60 * r + i by omega), eo 106 (by omega), hw1, up_at hj]
                 exact hir3 j a b
             · intro q a b hq
               rw [up_ne (show (105 : Int) ≠ 106 by decide), eo 105 (by omega)]
               refine ⟨rfl, fun j x y => ?_⟩
               rw [up_at (show 60 * q + j ≠ 60 * r + i by omega), eo 106 (by omega)])
      · skip
        rw [hv1, hw9]
        clear hv1 hw9 v1 w9
        dsimp only [Option.toList, List.cons_append, List.nil_append, List.append_nil]
        refine wp_if_ne (pc' := 7) (pt := 9) rfl rfl rfl (fun q_113 => absurd q_113 (by decide)) (fun q_113 => ?_)
        refine wp_iconst (a := -1) (pc' := 8) rfl rfl rfl ?_
        refine wp_ret rfl rfl rfl ?_
        first
        | (exfalso; omega)
        | exact ⟨rfl, rfl, hI⟩
        | exact ⟨rfl, by rw [hw9, up_ne (by decide), up_ne (by decide)], by rw [hw9, hw1]; exact refW_inv hI (by decide)⟩
        | (obtain ⟨hir1, hir2, hir3⟩ := hir
           refine ⟨congrArg (fun z => some (vI z)) (by omega), by rw [up_ne (by decide)], hI.texts hbr.1 hbr.2 (w' := up w1 106 (60 * r + i) (iB (iB v))) ?_ ⟨?_, ?_, ?_⟩ ?_⟩
           · rw [hw1]
             exact ((SameF.rf w _ _).put (Or.inl (by simp))).put (Or.inl (by simp))
           · rw [up_ne (by omega), up_ne (by decide), eo 105 (by omega), eo (65 + 2 * r) (by omega)]
             exact hir1
           · rw [up_ne (by decide), e105]
             exact hir2
           · intro j a b
             rw [up_ne (by decide), e105] at b
             rw [up_ne (show (66 + 2 * r : Int) ≠ 106 by omega)]
             by_cases hj : j = i
             · rw [hj, up_eq, hw1, up_eq, iB_iB]
               exact ⟨rfl, hib⟩
             · rw [up_at (show 60 * r + j ≠ 60 * r + i by omega), eo 106 (by omega), hw1, up_at hj]
               exact hir3 j a b
           · intro q a b hq
             rw [up_ne (show (105 : Int) ≠ 106 by decide), eo 105 (by omega)]
             refine ⟨rfl, fun j x y => ?_⟩
             rw [up_at (show 60 * q + j ≠ 60 * r + i by omega), eo 106 (by omega)])
    · skip
      rw [hv1, hw1]
      clear hv1 hw1 v1 w1
      have hij := hir.2.2 i (by omega) (by omega)
      dsimp only [Option.toList, List.cons_append, List.nil_append, List.append_nil]
      refine wp_goto (pc' := 22) rfl rfl ?_
      refine wp_istore (pc' := 24) rfl rfl (Nat.le_of_ble_eq_true rfl) rfl ?_
      dsimp only [lset, lset2, List.set, List.getElem?_cons_zero, List.getElem?_cons_succ]
      refine wp_iload (pc' := 26) rfl rfl rfl ?_
      refine wp_if_eq (pc' := 29) (pt := 32) rfl rfl rfl (fun q_114 => ?_) (fun q_114 => absurd (by decide) q_114)
      refine wp_aload_n (pc' := 33) rfl rfl rfl (by decide) ?_
      refine wp_getR (r' := 2) (ci := 9) (k0 := 1) (pc' := 36) rfl rfl (by decide) (by first | assumption | rfl) (hT.get 1 rfl) ?_
      refine wp_iload_n (pc' := 37) rfl rfl rfl ?_
      refine wp_aaload (r' := (65 + 2 * r)) (pc' := 38) rfl rfl (by first | assumption | rfl) rfl (by omega) (hst.2) ?_
      refine wp_getR (r' := (66 + 2 * r)) (ci := 7) (k0 := 0) (pc' := 41) rfl rfl (by decide) (by first | assumption | rfl) (hst.1.2.2.1) ?_
      refine wp_iload_n (pc' := 42) rfl rfl rfl ?_
      refine wp_iaload (pc' := 43) rfl rfl (by first | assumption | rfl) (by omega) ?_
      refine wp_istore (pc' := 45) rfl rfl (Nat.le_of_ble_eq_true rfl) rfl ?_
      dsimp only [lset, lset2, List.set, List.getElem?_cons_zero, List.getElem?_cons_succ]
      refine wp_aload_n (pc' := 46) rfl rfl rfl (by decide) ?_
      refine wp_getR (r' := 2) (ci := 9) (k0 := 1) (pc' := 49) rfl rfl (by decide) (by first | assumption | rfl) (hT.get 1 rfl) ?_
      refine wp_iload_n (pc' := 50) rfl rfl rfl ?_
      refine wp_aaload (r' := (65 + 2 * r)) (pc' := 51) rfl rfl (by first | assumption | rfl) rfl (by omega) (hst.2) ?_
      refine wp_getR (r' := (66 + 2 * r)) (ci := 7) (k0 := 0) (pc' := 54) rfl rfl (by decide) (by first | assumption | rfl) (hst.1.2.2.1) ?_
      refine wp_iload_n (pc' := 55) rfl rfl rfl ?_
      refine wp_iload_n (pc' := 56) rfl rfl rfl ?_
      refine wp_i2b (pc' := 57) rfl rfl rfl ?_
      refine wp_iastore (pc' := 58) rfl rfl (by first | assumption | rfl) (by omega) ?_
      refine wp_iload (pc' := 60) rfl rfl rfl ?_
      refine wp_sipush (a := 1000) (pc' := 63) rfl rfl rfl ?_
      refine wp_iadd (pc' := 64) rfl rfl (by first | exact w32_id (by omega) (by omega) | rfl) ?_
      refine wp_ret rfl rfl rfl ?_
      refine ⟨_, rfl, ?_, ?_⟩
      · rw [up_ne (by omega)]
      obtain ⟨w1, hw1⟩ : ∃ w1, w1 = up w (66 + 2 * r) i (iB v) := ⟨_, rfl⟩
      rw [← hw1]
      have hT : Stc w1 := by rw [hw1]; exact Stc.text hT hbr.1 hbr.2 ((SameF.rf _ _ _).put (Or.inl (by simp)))
      have eo : ∀ q : Int, q ≠ 66 + 2 * r → w1 q = w q := fun q b => by rw [hw1, up_ne b]
      have e105 : w1 105 r = w 105 r := by rw [eo 105 (by omega)]
      have e106 : w1 106 (60 * r + i) = w 106 (60 * r + i) := by rw [eo 106 (by omega)]
      have hib := iB_in v
      refine wp_iload_n (pc' := 1) rfl rfl rfl ?_
      refine wp_call (pc' := 4) rfl rfl rfl rfl rfl ⟨Nat.le_of_ble_eq_true rfl, Nat.le_of_ble_eq_true rfl, Nat.le_of_ble_eq_true rfl, Nat.le_of_ble_eq_true rfl, Nat.le_of_ble_eq_true rfl⟩ rfl (c_Mod_isText) ?_
      rintro v1 w9 ⟨hw9, ⟨hv1, hb1⟩ | ⟨hv1, hb1⟩⟩
      · skip
        rw [hv1, hw9]
        clear hv1 hw9 v1 w9
        dsimp only [Option.toList, List.cons_append, List.nil_append, List.append_nil]
        refine wp_if_ne (pc' := 7) (pt := 9) rfl rfl rfl (fun q_165 => ?_) (fun q_165 => absurd (by decide) q_165)
        refine wp_aload_n (pc' := 10) rfl rfl rfl (by decide) ?_
        refine wp_getR (r' := 105) (ci := 10) (k0 := 8) (pc' := 13) rfl rfl (by decide) (by first | assumption | rfl) (hT.get 103 rfl) ?_
        refine wp_iload_n (pc' := 14) rfl rfl rfl ?_
        refine wp_iaload (pc' := 15) rfl rfl (by first | assumption | rfl) (by omega) ?_
        refine wp_if_ge (pc' := 18) (pt := 24) rfl rfl rfl (fun q_166 => ?_) (fun q_166 => ?_)
        · skip
          refine wp_iload_n (pc' := 25) rfl rfl rfl ?_
          refine wp_iconst (a := 0) (pc' := 26) rfl rfl rfl ?_
          refine wp_aload_n (pc' := 27) rfl rfl rfl (by decide) ?_
          refine wp_getR (r' := 105) (ci := 10) (k0 := 8) (pc' := 30) rfl rfl (by decide) (by first | assumption | rfl) (hT.get 103 rfl) ?_
          refine wp_iload_n (pc' := 31) rfl rfl rfl ?_
          refine wp_iaload (pc' := 32) rfl rfl (by first | assumption | rfl) (by omega) ?_
          refine wp_iconst (a := 1) (pc' := 33) rfl rfl rfl ?_
          refine wp_isub (pc' := 34) rfl rfl (by first | exact w32_id (by omega) (by omega) | rfl) ?_
          refine wp_call (pc' := 37) rfl rfl rfl rfl rfl ⟨Nat.le_of_ble_eq_true rfl, Nat.le_of_ble_eq_true rfl, Nat.le_of_ble_eq_true rfl, Nat.le_of_ble_eq_true rfl, Nat.le_of_ble_eq_true rfl⟩ rfl (c_Mod_in) ?_
          rintro v1 w9 ⟨hw9, ⟨hv1, hb1⟩ | ⟨hv1, hb1⟩⟩
          · skip
            rw [hv1, hw9]
            clear hv1 hw9 v1 w9
            dsimp only [Option.toList, List.cons_append, List.nil_append, List.append_nil]
            refine wp_if_ne (pc' := 40) (pt := 46) rfl rfl rfl (fun q_167 => ?_) (fun q_167 => absurd (by decide) q_167)
            refine wp_aload_n (pc' := 47) rfl rfl rfl (by decide) ?_
            refine wp_getR (r' := 106) (ci := 10) (k0 := 9) (pc' := 50) rfl rfl (by decide) (by first | assumption | rfl) (hT.get 104 rfl) ?_
            refine wp_bipush (a := 60) (pc' := 52) rfl rfl rfl ?_
            refine wp_iload_n (pc' := 53) rfl rfl rfl ?_
            refine wp_imul (pc' := 54) rfl rfl (by first | exact w32_id (by omega) (by omega) | rfl) ?_
            refine wp_iload_n (pc' := 55) rfl rfl rfl ?_
            refine wp_iadd (pc' := 56) rfl rfl (by first | exact w32_id (by omega) (by omega) | rfl) ?_
            refine wp_baload (pc' := 57) rfl rfl (by first | assumption | rfl) rfl (by omega) ?_
            refine wp_istore (pc' := 59) rfl rfl (Nat.le_of_ble_eq_true rfl) rfl ?_
            dsimp only [lset, lset2, List.set, List.getElem?_cons_zero, List.getElem?_cons_succ]
            refine wp_aload_n (pc' := 60) rfl rfl rfl (by decide) ?_
            refine wp_getR (r' := 106) (ci := 10) (k0 := 9) (pc' := 63) rfl rfl (by decide) (by first | assumption | rfl) (hT.get 104 rfl) ?_
            refine wp_bipush (a := 60) (pc' := 65) rfl rfl rfl ?_
            refine wp_iload_n (pc' := 66) rfl rfl rfl ?_
            refine wp_imul (pc' := 67) rfl rfl (by first | exact w32_id (by omega) (by omega) | rfl) ?_
            refine wp_iload_n (pc' := 68) rfl rfl rfl ?_
            refine wp_iadd (pc' := 69) rfl rfl (by first | exact w32_id (by omega) (by omega) | rfl) ?_
            refine wp_iload_n (pc' := 70) rfl rfl rfl ?_
            refine wp_i2b (pc' := 71) rfl rfl rfl ?_
            refine wp_bastoreB (pc' := 72) rfl rfl rfl (by omega) ?_
            refine wp_sipush (a := 1000) (pc' := 75) rfl rfl rfl ?_
            refine wp_iload (pc' := 77) rfl rfl rfl ?_
            refine wp_iadd (pc' := 78) rfl rfl (by first | exact w32_id (by omega) (by omega) | rfl) ?_
            refine wp_ret rfl rfl rfl ?_
            first
            | (exfalso; omega)
            | exact ⟨rfl, rfl, hI⟩
            | exact ⟨rfl, by rw [hw9, up_ne (by decide), up_ne (by decide)], by rw [hw9, hw1]; exact refW_inv hI (by decide)⟩
            | (obtain ⟨hir1, hir2, hir3⟩ := hir
               refine ⟨congrArg (fun z => some (vI z)) (by omega), by rw [up_ne (by decide)], hI.texts hbr.1 hbr.2 (w' := up w1 106 (60 * r + i) (iB (iB v))) ?_ ⟨?_, ?_, ?_⟩ ?_⟩
               · rw [hw1]
                 exact ((SameF.rf w _ _).put (Or.inl (by simp))).put (Or.inl (by simp))
               · rw [up_ne (by omega), up_ne (by decide), eo 105 (by omega), eo (65 + 2 * r) (by omega)]
                 exact hir1
               · rw [up_ne (by decide), e105]
                 exact hir2
               · intro j a b
                 rw [up_ne (by decide), e105] at b
                 rw [up_ne (show (66 + 2 * r : Int) ≠ 106 by omega)]
                 by_cases hj : j = i
                 · rw [hj, up_eq, hw1, up_eq, iB_iB]
                   exact ⟨rfl, hib⟩
                 · rw [up_at (show 60 * r + j ≠ 60 * r + i by omega), eo 106 (by omega), hw1, up_at hj]
                   exact hir3 j a b
               · intro q a b hq
                 rw [up_ne (show (105 : Int) ≠ 106 by decide), eo 105 (by omega)]
                 refine ⟨rfl, fun j x y => ?_⟩
                 rw [up_at (show 60 * q + j ≠ 60 * r + i by omega), eo 106 (by omega)])
          · skip
            rw [hv1, hw9]
            clear hv1 hw9 v1 w9
            dsimp only [Option.toList, List.cons_append, List.nil_append, List.append_nil]
            refine wp_if_ne (pc' := 40) (pt := 46) rfl rfl rfl (fun q_168 => absurd q_168 (by decide)) (fun q_168 => ?_)
            refine wp_aload_n (pc' := 41) rfl rfl rfl (by decide) ?_
            refine wp_iconst (a := 2) (pc' := 42) rfl rfl rfl ?_
            refine wp_call (pc' := 45) rfl rfl rfl rfl rfl ⟨Nat.le_of_ble_eq_true rfl, Nat.le_of_ble_eq_true rfl, Nat.le_of_ble_eq_true rfl, Nat.le_of_ble_eq_true rfl, Nat.le_of_ble_eq_true rfl⟩ rfl (c_Mod_meets hT (by decide)) ?_
            rintro v1 w9 ⟨hv1, hw9⟩
            rw [hv1]
            clear hv1 v1
            dsimp only [Option.toList, List.cons_append, List.nil_append, List.append_nil]
            refine wp_ret rfl rfl rfl ?_
            first
            | (exfalso; omega)
            | exact ⟨rfl, rfl, hI⟩
            | exact ⟨rfl, by rw [hw9, up_ne (by decide), up_ne (by decide)], by rw [hw9, hw1]; exact refW_inv hI (by decide)⟩
            | (obtain ⟨hir1, hir2, hir3⟩ := hir
               refine ⟨congrArg (fun z => some (vI z)) (by omega), by rw [up_ne (by decide)], hI.texts hbr.1 hbr.2 (w' := up w1 106 (60 * r + i) (iB (iB v))) ?_ ⟨?_, ?_, ?_⟩ ?_⟩
               · rw [hw1]
                 exact ((SameF.rf w _ _).put (Or.inl (by simp))).put (Or.inl (by simp))
               · rw [up_ne (by omega), up_ne (by decide), eo 105 (by omega), eo (65 + 2 * r) (by omega)]
                 exact hir1
               · rw [up_ne (by decide), e105]
                 exact hir2
               · intro j a b
                 rw [up_ne (by decide), e105] at b
                 rw [up_ne (show (66 + 2 * r : Int) ≠ 106 by omega)]
                 by_cases hj : j = i
                 · rw [hj, up_eq, hw1, up_eq, iB_iB]
                   exact ⟨rfl, hib⟩
                 · rw [up_at (show 60 * r + j ≠ 60 * r + i by omega), eo 106 (by omega), hw1, up_at hj]
                   exact hir3 j a b
               · intro q a b hq
                 rw [up_ne (show (105 : Int) ≠ 106 by decide), eo 105 (by omega)]
                 refine ⟨rfl, fun j x y => ?_⟩
                 rw [up_at (show 60 * q + j ≠ 60 * r + i by omega), eo 106 (by omega)])
        · skip
          refine wp_aload_n (pc' := 19) rfl rfl rfl (by decide) ?_
          refine wp_iconst (a := 1) (pc' := 20) rfl rfl rfl ?_
          refine wp_call (pc' := 23) rfl rfl rfl rfl rfl ⟨Nat.le_of_ble_eq_true rfl, Nat.le_of_ble_eq_true rfl, Nat.le_of_ble_eq_true rfl, Nat.le_of_ble_eq_true rfl, Nat.le_of_ble_eq_true rfl⟩ rfl (c_Mod_meets hT (by decide)) ?_
          rintro v1 w9 ⟨hv1, hw9⟩
          rw [hv1]
          clear hv1 v1
          dsimp only [Option.toList, List.cons_append, List.nil_append, List.append_nil]
          refine wp_ret rfl rfl rfl ?_
          first
          | (exfalso; omega)
          | exact ⟨rfl, rfl, hI⟩
          | exact ⟨rfl, by rw [hw9, up_ne (by decide), up_ne (by decide)], by rw [hw9, hw1]; exact refW_inv hI (by decide)⟩
          | (obtain ⟨hir1, hir2, hir3⟩ := hir
             refine ⟨congrArg (fun z => some (vI z)) (by omega), by rw [up_ne (by decide)], hI.texts hbr.1 hbr.2 (w' := up w1 106 (60 * r + i) (iB (iB v))) ?_ ⟨?_, ?_, ?_⟩ ?_⟩
             · rw [hw1]
               exact ((SameF.rf w _ _).put (Or.inl (by simp))).put (Or.inl (by simp))
             · rw [up_ne (by omega), up_ne (by decide), eo 105 (by omega), eo (65 + 2 * r) (by omega)]
               exact hir1
             · rw [up_ne (by decide), e105]
               exact hir2
             · intro j a b
               rw [up_ne (by decide), e105] at b
               rw [up_ne (show (66 + 2 * r : Int) ≠ 106 by omega)]
               by_cases hj : j = i
               · rw [hj, up_eq, hw1, up_eq, iB_iB]
                 exact ⟨rfl, hib⟩
               · rw [up_at (show 60 * r + j ≠ 60 * r + i by omega), eo 106 (by omega), hw1, up_at hj]
                 exact hir3 j a b
             · intro q a b hq
               rw [up_ne (show (105 : Int) ≠ 106 by decide), eo 105 (by omega)]
               refine ⟨rfl, fun j x y => ?_⟩
               rw [up_at (show 60 * q + j ≠ 60 * r + i by omega), eo 106 (by omega)])
      · skip
        rw [hv1, hw9]
        clear hv1 hw9 v1 w9
        dsimp only [Option.toList, List.cons_append, List.nil_append, List.append_nil]
        refine wp_if_ne (pc' := 7) (pt := 9) rfl rfl rfl (fun q_169 => absurd q_169 (by decide)) (fun q_169 => ?_)
        refine wp_iconst (a := -1) (pc' := 8) rfl rfl rfl ?_
        refine wp_ret rfl rfl rfl ?_
        first
        | (exfalso; omega)
        | exact ⟨rfl, rfl, hI⟩
        | exact ⟨rfl, by rw [hw9, up_ne (by decide), up_ne (by decide)], by rw [hw9, hw1]; exact refW_inv hI (by decide)⟩
        | (obtain ⟨hir1, hir2, hir3⟩ := hir
           refine ⟨congrArg (fun z => some (vI z)) (by omega), by rw [up_ne (by decide)], hI.texts hbr.1 hbr.2 (w' := up w1 106 (60 * r + i) (iB (iB v))) ?_ ⟨?_, ?_, ?_⟩ ?_⟩
           · rw [hw1]
             exact ((SameF.rf w _ _).put (Or.inl (by simp))).put (Or.inl (by simp))
           · rw [up_ne (by omega), up_ne (by decide), eo 105 (by omega), eo (65 + 2 * r) (by omega)]
             exact hir1
           · rw [up_ne (by decide), e105]
             exact hir2
           · intro j a b
             rw [up_ne (by decide), e105] at b
             rw [up_ne (show (66 + 2 * r : Int) ≠ 106 by omega)]
             by_cases hj : j = i
             · rw [hj, up_eq, hw1, up_eq, iB_iB]
               exact ⟨rfl, hib⟩
             · rw [up_at (show 60 * r + j ≠ 60 * r + i by omega), eo 106 (by omega), hw1, up_at hj]
               exact hir3 j a b
           · intro q a b hq
             rw [up_ne (show (105 : Int) ≠ 106 by decide), eo 105 (by omega)]
             refine ⟨rfl, fun j x y => ?_⟩
             rw [up_at (show 60 * q + j ≠ 60 * r + i by omega), eo 106 (by omega)])
  · skip
    rw [hv1, hw9]
    clear hv1 hw9 v1 w9
    dsimp only [Option.toList, List.cons_append, List.nil_append, List.append_nil]
    refine wp_if_eq (pc' := 7) (pt := 21) rfl rfl rfl (fun q_170 => ?_) (fun q_170 => absurd (by decide) q_170)
    refine wp_iconst (a := -1) (pc' := 22) rfl rfl rfl ?_
    refine wp_istore (pc' := 24) rfl rfl (Nat.le_of_ble_eq_true rfl) rfl ?_
    dsimp only [lset, lset2, List.set, List.getElem?_cons_zero, List.getElem?_cons_succ]
    refine wp_iload (pc' := 26) rfl rfl rfl ?_
    refine wp_if_eq (pc' := 29) (pt := 32) rfl rfl rfl (fun q_171 => absurd q_171 (by decide)) (fun q_171 => ?_)
    refine wp_iload (pc' := 31) rfl rfl rfl ?_
    refine wp_ret rfl rfl rfl ?_
    refine ⟨_, rfl, ?_, ?_⟩
    · first | exact e2 | rfl
    refine wp_iload_n (pc' := 1) rfl rfl rfl ?_
    refine wp_call (pc' := 4) rfl rfl rfl rfl rfl ⟨Nat.le_of_ble_eq_true rfl, Nat.le_of_ble_eq_true rfl, Nat.le_of_ble_eq_true rfl, Nat.le_of_ble_eq_true rfl, Nat.le_of_ble_eq_true rfl⟩ rfl (c_Mod_isText) ?_
    rintro v1 w9 ⟨hw9, ⟨hv1, hb1⟩ | ⟨hv1, hb1⟩⟩
    · skip
      rw [hv1, hw9]
      clear hv1 hw9 v1 w9
      dsimp only [Option.toList, List.cons_append, List.nil_append, List.append_nil]
      refine wp_if_ne (pc' := 7) (pt := 9) rfl rfl rfl (fun q_222 => ?_) (fun q_222 => absurd (by decide) q_222)
      refine wp_aload_n (pc' := 10) rfl rfl rfl (by decide) ?_
      refine wp_getR (r' := 105) (ci := 10) (k0 := 8) (pc' := 13) rfl rfl (by decide) (by first | assumption | rfl) (hT.get 103 rfl) ?_
      refine wp_iload_n (pc' := 14) rfl rfl rfl ?_
      refine wp_iaload (pc' := 15) rfl rfl (by first | assumption | rfl) (by omega) ?_
      refine wp_if_ge (pc' := 18) (pt := 24) rfl rfl rfl (fun q_223 => ?_) (fun q_223 => ?_)
      · skip
        refine wp_iload_n (pc' := 25) rfl rfl rfl ?_
        refine wp_iconst (a := 0) (pc' := 26) rfl rfl rfl ?_
        refine wp_aload_n (pc' := 27) rfl rfl rfl (by decide) ?_
        refine wp_getR (r' := 105) (ci := 10) (k0 := 8) (pc' := 30) rfl rfl (by decide) (by first | assumption | rfl) (hT.get 103 rfl) ?_
        refine wp_iload_n (pc' := 31) rfl rfl rfl ?_
        refine wp_iaload (pc' := 32) rfl rfl (by first | assumption | rfl) (by omega) ?_
        refine wp_iconst (a := 1) (pc' := 33) rfl rfl rfl ?_
        refine wp_isub (pc' := 34) rfl rfl (by first | exact w32_id (by omega) (by omega) | rfl) ?_
        refine wp_call (pc' := 37) rfl rfl rfl rfl rfl ⟨Nat.le_of_ble_eq_true rfl, Nat.le_of_ble_eq_true rfl, Nat.le_of_ble_eq_true rfl, Nat.le_of_ble_eq_true rfl, Nat.le_of_ble_eq_true rfl⟩ rfl (c_Mod_in) ?_
        rintro v1 w9 ⟨hw9, ⟨hv1, hb1⟩ | ⟨hv1, hb1⟩⟩
        · skip
          rw [hv1, hw9]
          clear hv1 hw9 v1 w9
          dsimp only [Option.toList, List.cons_append, List.nil_append, List.append_nil]
          refine wp_if_ne (pc' := 40) (pt := 46) rfl rfl rfl (fun q_224 => ?_) (fun q_224 => absurd (by decide) q_224)
          refine wp_aload_n (pc' := 47) rfl rfl rfl (by decide) ?_
          refine wp_getR (r' := 106) (ci := 10) (k0 := 9) (pc' := 50) rfl rfl (by decide) (by first | assumption | rfl) (hT.get 104 rfl) ?_
          refine wp_bipush (a := 60) (pc' := 52) rfl rfl rfl ?_
          refine wp_iload_n (pc' := 53) rfl rfl rfl ?_
          refine wp_imul (pc' := 54) rfl rfl (by first | exact w32_id (by omega) (by omega) | rfl) ?_
          refine wp_iload_n (pc' := 55) rfl rfl rfl ?_
          refine wp_iadd (pc' := 56) rfl rfl (by first | exact w32_id (by omega) (by omega) | rfl) ?_
          refine wp_baload (pc' := 57) rfl rfl (by first | assumption | rfl) rfl (by omega) ?_
          refine wp_istore (pc' := 59) rfl rfl (Nat.le_of_ble_eq_true rfl) rfl ?_
          dsimp only [lset, lset2, List.set, List.getElem?_cons_zero, List.getElem?_cons_succ]
          refine wp_aload_n (pc' := 60) rfl rfl rfl (by decide) ?_
          refine wp_getR (r' := 106) (ci := 10) (k0 := 9) (pc' := 63) rfl rfl (by decide) (by first | assumption | rfl) (hT.get 104 rfl) ?_
          refine wp_bipush (a := 60) (pc' := 65) rfl rfl rfl ?_
          refine wp_iload_n (pc' := 66) rfl rfl rfl ?_
          refine wp_imul (pc' := 67) rfl rfl (by first | exact w32_id (by omega) (by omega) | rfl) ?_
          refine wp_iload_n (pc' := 68) rfl rfl rfl ?_
          refine wp_iadd (pc' := 69) rfl rfl (by first | exact w32_id (by omega) (by omega) | rfl) ?_
          refine wp_iload_n (pc' := 70) rfl rfl rfl ?_
          refine wp_i2b (pc' := 71) rfl rfl rfl ?_
          refine wp_bastoreB (pc' := 72) rfl rfl rfl (by omega) ?_
          refine wp_sipush (a := 1000) (pc' := 75) rfl rfl rfl ?_
          refine wp_iload (pc' := 77) rfl rfl rfl ?_
          refine wp_iadd (pc' := 78) rfl rfl (by first | exact w32_id (by omega) (by omega) | rfl) ?_
          refine wp_ret rfl rfl rfl ?_
          first
          | (exfalso; omega)
          | exact ⟨rfl, rfl, hI⟩
          | exact ⟨rfl, by rw [hw9, up_ne (by decide), up_ne (by decide)], by rw [hw9, hw1]; exact refW_inv hI (by decide)⟩
          | (obtain ⟨hir1, hir2, hir3⟩ := hir
             refine ⟨congrArg (fun z => some (vI z)) (by omega), by rw [up_ne (by decide)], hI.texts hbr.1 hbr.2 (w' := up w1 106 (60 * r + i) (iB (iB v))) ?_ ⟨?_, ?_, ?_⟩ ?_⟩
             · rw [hw1]
               exact ((SameF.rf w _ _).put (Or.inl (by simp))).put (Or.inl (by simp))
             · rw [up_ne (by omega), up_ne (by decide), eo 105 (by omega), eo (65 + 2 * r) (by omega)]
               exact hir1
             · rw [up_ne (by decide), e105]
               exact hir2
             · intro j a b
               rw [up_ne (by decide), e105] at b
               rw [up_ne (show (66 + 2 * r : Int) ≠ 106 by omega)]
               by_cases hj : j = i
               · rw [hj, up_eq, hw1, up_eq, iB_iB]
                 exact ⟨rfl, hib⟩
               · rw [up_at (show 60 * r + j ≠ 60 * r + i by omega), eo 106 (by omega), hw1, up_at hj]
                 exact hir3 j a b
             · intro q a b hq
               rw [up_ne (show (105 : Int) ≠ 106 by decide), eo 105 (by omega)]
               refine ⟨rfl, fun j x y => ?_⟩
               rw [up_at (show 60 * q + j ≠ 60 * r + i by omega), eo 106 (by omega)])
        · skip
          rw [hv1, hw9]
          clear hv1 hw9 v1 w9
          dsimp only [Option.toList, List.cons_append, List.nil_append, List.append_nil]
          refine wp_if_ne (pc' := 40) (pt := 46) rfl rfl rfl (fun q_225 => absurd q_225 (by decide)) (fun q_225 => ?_)
          refine wp_aload_n (pc' := 41) rfl rfl rfl (by decide) ?_
          refine wp_iconst (a := 2) (pc' := 42) rfl rfl rfl ?_
          refine wp_call (pc' := 45) rfl rfl rfl rfl rfl ⟨Nat.le_of_ble_eq_true rfl, Nat.le_of_ble_eq_true rfl, Nat.le_of_ble_eq_true rfl, Nat.le_of_ble_eq_true rfl, Nat.le_of_ble_eq_true rfl⟩ rfl (c_Mod_meets hT (by decide)) ?_
          rintro v1 w9 ⟨hv1, hw9⟩
          rw [hv1]
          clear hv1 v1
          dsimp only [Option.toList, List.cons_append, List.nil_append, List.append_nil]
          refine wp_ret rfl rfl rfl ?_
          first
          | (exfalso; omega)
          | exact ⟨rfl, rfl, hI⟩
          | exact ⟨rfl, by rw [hw9, up_ne (by decide), up_ne (by decide)], by rw [hw9, hw1]; exact refW_inv hI (by decide)⟩
          | (obtain ⟨hir1, hir2, hir3⟩ := hir
             refine ⟨congrArg (fun z => some (vI z)) (by omega), by rw [up_ne (by decide)], hI.texts hbr.1 hbr.2 (w' := up w1 106 (60 * r + i) (iB (iB v))) ?_ ⟨?_, ?_, ?_⟩ ?_⟩
             · rw [hw1]
               exact ((SameF.rf w _ _).put (Or.inl (by simp))).put (Or.inl (by simp))
             · rw [up_ne (by omega), up_ne (by decide), eo 105 (by omega), eo (65 + 2 * r) (by omega)]
               exact hir1
             · rw [up_ne (by decide), e105]
               exact hir2
             · intro j a b
               rw [up_ne (by decide), e105] at b
               rw [up_ne (show (66 + 2 * r : Int) ≠ 106 by omega)]
               by_cases hj : j = i
               · rw [hj, up_eq, hw1, up_eq, iB_iB]
                 exact ⟨rfl, hib⟩
               · rw [up_at (show 60 * r + j ≠ 60 * r + i by omega), eo 106 (by omega), hw1, up_at hj]
                 exact hir3 j a b
             · intro q a b hq
               rw [up_ne (show (105 : Int) ≠ 106 by decide), eo 105 (by omega)]
               refine ⟨rfl, fun j x y => ?_⟩
               rw [up_at (show 60 * q + j ≠ 60 * r + i by omega), eo 106 (by omega)])
      · skip
        refine wp_aload_n (pc' := 19) rfl rfl rfl (by decide) ?_
        refine wp_iconst (a := 1) (pc' := 20) rfl rfl rfl ?_
        refine wp_call (pc' := 23) rfl rfl rfl rfl rfl ⟨Nat.le_of_ble_eq_true rfl, Nat.le_of_ble_eq_true rfl, Nat.le_of_ble_eq_true rfl, Nat.le_of_ble_eq_true rfl, Nat.le_of_ble_eq_true rfl⟩ rfl (c_Mod_meets hT (by decide)) ?_
        rintro v1 w9 ⟨hv1, hw9⟩
        rw [hv1]
        clear hv1 v1
        dsimp only [Option.toList, List.cons_append, List.nil_append, List.append_nil]
        refine wp_ret rfl rfl rfl ?_
        first
        | (exfalso; omega)
        | exact ⟨rfl, rfl, hI⟩
        | exact ⟨rfl, by rw [hw9, up_ne (by decide), up_ne (by decide)], by rw [hw9, hw1]; exact refW_inv hI (by decide)⟩
        | (obtain ⟨hir1, hir2, hir3⟩ := hir
           refine ⟨congrArg (fun z => some (vI z)) (by omega), by rw [up_ne (by decide)], hI.texts hbr.1 hbr.2 (w' := up w1 106 (60 * r + i) (iB (iB v))) ?_ ⟨?_, ?_, ?_⟩ ?_⟩
           · rw [hw1]
             exact ((SameF.rf w _ _).put (Or.inl (by simp))).put (Or.inl (by simp))
           · rw [up_ne (by omega), up_ne (by decide), eo 105 (by omega), eo (65 + 2 * r) (by omega)]
             exact hir1
           · rw [up_ne (by decide), e105]
             exact hir2
           · intro j a b
             rw [up_ne (by decide), e105] at b
             rw [up_ne (show (66 + 2 * r : Int) ≠ 106 by omega)]
             by_cases hj : j = i
             · rw [hj, up_eq, hw1, up_eq, iB_iB]
               exact ⟨rfl, hib⟩
             · rw [up_at (show 60 * r + j ≠ 60 * r + i by omega), eo 106 (by omega), hw1, up_at hj]
               exact hir3 j a b
           · intro q a b hq
             rw [up_ne (show (105 : Int) ≠ 106 by decide), eo 105 (by omega)]
             refine ⟨rfl, fun j x y => ?_⟩
             rw [up_at (show 60 * q + j ≠ 60 * r + i by omega), eo 106 (by omega)])
    · skip
      rw [hv1, hw9]
      clear hv1 hw9 v1 w9
      dsimp only [Option.toList, List.cons_append, List.nil_append, List.append_nil]
      refine wp_if_ne (pc' := 7) (pt := 9) rfl rfl rfl (fun q_226 => absurd q_226 (by decide)) (fun q_226 => ?_)
      refine wp_iconst (a := -1) (pc' := 8) rfl rfl rfl ?_
      refine wp_ret rfl rfl rfl ?_
      first
      | (exfalso; omega)
      | exact ⟨rfl, rfl, hI⟩
      | exact ⟨rfl, by rw [hw9, up_ne (by decide), up_ne (by decide)], by rw [hw9, hw1]; exact refW_inv hI (by decide)⟩
      | (obtain ⟨hir1, hir2, hir3⟩ := hir
         refine ⟨congrArg (fun z => some (vI z)) (by omega), by rw [up_ne (by decide)], hI.texts hbr.1 hbr.2 (w' := up w1 106 (60 * r + i) (iB (iB v))) ?_ ⟨?_, ?_, ?_⟩ ?_⟩
         · rw [hw1]
           exact ((SameF.rf w _ _).put (Or.inl (by simp))).put (Or.inl (by simp))
         · rw [up_ne (by omega), up_ne (by decide), eo 105 (by omega), eo (65 + 2 * r) (by omega)]
           exact hir1
         · rw [up_ne (by decide), e105]
           exact hir2
         · intro j a b
           rw [up_ne (by decide), e105] at b
           rw [up_ne (show (66 + 2 * r : Int) ≠ 106 by omega)]
           by_cases hj : j = i
           · rw [hj, up_eq, hw1, up_eq, iB_iB]
             exact ⟨rfl, hib⟩
           · rw [up_at (show 60 * r + j ≠ 60 * r + i by omega), eo 106 (by omega), hw1, up_at hj]
             exact hir3 j a b
         · intro q a b hq
           rw [up_ne (show (105 : Int) ≠ 106 by decide), eo 105 (by omega)]
           refine ⟨rfl, fun j x y => ?_⟩
           rw [up_at (show 60 * q + j ≠ 60 * r + i by omega), eo 106 (by omega)])
