/-! lay, at, tear -/
def refW (w : Hp) (f : Int) : Hp := up (up w 0 13 f) 52 f (w32 (w 52 f + 1))
theorem refW_stc {w : Hp} {f : Int} (h : Stc w) : Stc (refW w f) := (h.putF (by decide)).putA (by decide)
theorem refW_ne {w : Hp} {f q : Int} (h0 : q ≠ 0) (h1 : q ≠ 52) : refW w f q = w q := by
  unfold refW
  rw [up_ne h1, up_ne h0]
theorem refW_inv {w : Hp} {f : Int} (h : Inv w) (hf : 1 ≤ f ∧ f ≤ 5) : Inv (up (up (refW w f) 100 0 f) 101 f (w32 (refW w f 101 f + 1))) := by
  rw [refW_ne (by decide) (by decide)]
  exact h.refused hf
set_option maxRecDepth 20000 in
set_option maxHeartbeats 4000000 in
theorem c_VH_placeRefusal {w : Hp} {d : Nat} {s p i : Int} {n : Nat} (hT : Stc w) (hs : StripAt w s p n) : WP SH (d + 1) 127 0 [some (vR 0), some (vR s), some (vI i)] [] w (fun v w' => (v = some (vI (-3)) ∧ w s 1 = -1 ∧ w' = refW w 1) ∨ (v = some (vI (-3)) ∧ w s 1 ≠ -1 ∧ (i < 0 ∨ w s 1 ≤ i) ∧ w' = refW w 2) ∨ (v = some (vI 0) ∧ w s 1 ≠ -1 ∧ 0 ≤ i ∧ i < w s 1 ∧ w' = w)) := by
  obtain ⟨hs7, hpn, hsp, hs0, hp0, hne, hnn⟩ := id hs
  refine wp_aload_n (pc' := 1) rfl rfl rfl (by omega) ?_
  refine wp_call (pc' := 4) rfl rfl rfl rfl rfl ⟨Nat.le_of_ble_eq_true rfl, Nat.le_of_ble_eq_true rfl, Nat.le_of_ble_eq_true rfl, Nat.le_of_ble_eq_true rfl, Nat.le_of_ble_eq_true rfl⟩ (recv_strip hs7 (by decide)) (c_Strip_isMissing hs) ?_
  rintro v1 w9 ⟨hw9, ⟨hv1, hb1⟩ | ⟨hv1, hb1⟩⟩
  · skip
    rw [hv1, hw9]
    clear hv1 hw9 v1 w9
    dsimp only [Option.toList, List.cons_append, List.nil_append, List.append_nil]
    refine wp_if_eq (pc' := 7) (pt := 13) rfl rfl rfl (fun q_1 => absurd q_1 (by decide)) (fun q_1 => ?_)
    refine wp_aload_n (pc' := 8) rfl rfl rfl (by decide) ?_
    refine wp_iconst (a := 1) (pc' := 9) rfl rfl rfl ?_
    refine wp_call (pc' := 12) rfl rfl rfl rfl rfl ⟨Nat.le_of_ble_eq_true rfl, Nat.le_of_ble_eq_true rfl, Nat.le_of_ble_eq_true rfl, Nat.le_of_ble_eq_true rfl, Nat.le_of_ble_eq_true rfl⟩ rfl (c_VH_refuse hT (by decide)) ?_
    intro v1 w9 hq1
    rw [hq1.1, hq1.2]
    clear hq1 v1 w9
    dsimp only [Option.toList, List.cons_append, List.nil_append, List.append_nil]
    refine wp_ret rfl rfl rfl ?_
    first | exact Or.inl ⟨rfl, by omega, rfl⟩ | exact Or.inr (Or.inl ⟨rfl, by omega, by omega, rfl⟩) | exact Or.inr (Or.inr ⟨rfl, by omega, by omega, by omega, rfl⟩)
  · skip
    rw [hv1, hw9]
    clear hv1 hw9 v1 w9
    dsimp only [Option.toList, List.cons_append, List.nil_append, List.append_nil]
    refine wp_if_eq (pc' := 7) (pt := 13) rfl rfl rfl (fun q_2 => ?_) (fun q_2 => absurd (by decide) q_2)
    refine wp_iload_n (pc' := 14) rfl rfl rfl ?_
    refine wp_if_lt (pc' := 17) (pt := 25) rfl rfl rfl (fun q_3 => ?_) (fun q_3 => ?_)
    · skip
      refine wp_aload_n (pc' := 26) rfl rfl rfl (by decide) ?_
      refine wp_iconst (a := 2) (pc' := 27) rfl rfl rfl ?_
      refine wp_call (pc' := 30) rfl rfl rfl rfl rfl ⟨Nat.le_of_ble_eq_true rfl, Nat.le_of_ble_eq_true rfl, Nat.le_of_ble_eq_true rfl, Nat.le_of_ble_eq_true rfl, Nat.le_of_ble_eq_true rfl⟩ rfl (c_VH_refuse hT (by decide)) ?_
      intro v1 w9 hq1
      rw [hq1.1, hq1.2]
      clear hq1 v1 w9
      dsimp only [Option.toList, List.cons_append, List.nil_append, List.append_nil]
      refine wp_goto (pc' := 34) rfl rfl ?_
      refine wp_ret rfl rfl rfl ?_
      first | exact Or.inl ⟨rfl, by omega, rfl⟩ | exact Or.inr (Or.inl ⟨rfl, by omega, by omega, rfl⟩) | exact Or.inr (Or.inr ⟨rfl, by omega, by omega, by omega, rfl⟩)
    · skip
      refine wp_iload_n (pc' := 18) rfl rfl rfl ?_
      refine wp_aload_n (pc' := 19) rfl rfl rfl (by omega) ?_
      refine wp_getI (ci := 7) (k0 := 1) (pc' := 22) rfl rfl (by decide) (by first | assumption | rfl) ?_
      refine wp_icmp_lt (pc' := 25) (pt := 33) rfl rfl rfl (fun q_4 => ?_) (fun q_4 => ?_)
      · skip
        refine wp_iconst (a := 0) (pc' := 34) rfl rfl rfl ?_
        refine wp_ret rfl rfl rfl ?_
        first | exact Or.inl ⟨rfl, by omega, rfl⟩ | exact Or.inr (Or.inl ⟨rfl, by omega, by omega, rfl⟩) | exact Or.inr (Or.inr ⟨rfl, by omega, by omega, by omega, rfl⟩)
      · skip
        refine wp_aload_n (pc' := 26) rfl rfl rfl (by decide) ?_
        refine wp_iconst (a := 2) (pc' := 27) rfl rfl rfl ?_
        refine wp_call (pc' := 30) rfl rfl rfl rfl rfl ⟨Nat.le_of_ble_eq_true rfl, Nat.le_of_ble_eq_true rfl, Nat.le_of_ble_eq_true rfl, Nat.le_of_ble_eq_true rfl, Nat.le_of_ble_eq_true rfl⟩ rfl (c_VH_refuse hT (by decide)) ?_
        intro v1 w9 hq1
        rw [hq1.1, hq1.2]
        clear hq1 v1 w9
        dsimp only [Option.toList, List.cons_append, List.nil_append, List.append_nil]
        refine wp_goto (pc' := 34) rfl rfl ?_
        refine wp_ret rfl rfl rfl ?_
        first | exact Or.inl ⟨rfl, by omega, rfl⟩ | exact Or.inr (Or.inl ⟨rfl, by omega, by omega, rfl⟩) | exact Or.inr (Or.inr ⟨rfl, by omega, by omega, by omega, rfl⟩)
set_option maxRecDepth 20000 in
set_option maxHeartbeats 4000000 in
theorem p_lay {w : Hp} {d : Nat} {r : Int} {i : Int} {v : Int} (hI : Inv w) (hv : I32 v) : WP SH (d + 9) 81 0 [some (vR 0), some (vI r), some (vI i), some (vI v), none] [] w (fun v0 w1 => ∃ a, v0 = some (vI a) ∧ w1 (-2) = w (-2) ∧ WP SH (d + 9) 151 0 [some (vR 100), some (vI r), some (vI i), some (vI v), none] [] w1 (fun v2 w2 => v2 = some (vI a) ∧ w2 (-2) = w1 (-2) ∧ Inv w2)) := by
  obtain ⟨hT, hRO, hIF, hITo, hIR, hIT, hIL, hIK⟩ := id hI
  refine wp_iload_n (pc' := 1) rfl rfl rfl ?_
  refine wp_call (pc' := 4) rfl rfl rfl rfl rfl ⟨Nat.le_of_ble_eq_true rfl, Nat.le_of_ble_eq_true rfl, Nat.le_of_ble_eq_true rfl, Nat.le_of_ble_eq_true rfl, Nat.le_of_ble_eq_true rfl⟩ rfl (c_VH_isRow) ?_
  rintro v1 w9 ⟨hw9, ⟨hv1, hb1⟩ | ⟨hv1, hb1⟩⟩
  · skip
    rw [hv1, hw9]
    clear hv1 hw9 v1 w9
    have hst := strip_row hT hb1.1 hb1.2
    have hs7 := hst.1.1
    have hs1 := hst.1.2.1
    have hir := hIR r hb1.1 hb1.2
    have hbr := hb1
    dsimp only [Option.toList, List.cons_append, List.nil_append, List.append_nil]
    refine wp_if_eq (pc' := 7) (pt := 21) rfl rfl rfl (fun q_1 => absurd q_1 (by decide)) (fun q_1 => ?_)
    refine wp_aload_n (pc' := 8) rfl rfl rfl (by decide) ?_
    refine wp_aload_n (pc' := 9) rfl rfl rfl (by decide) ?_
    refine wp_getR (r' := 1) (ci := 9) (k0 := 0) (pc' := 12) rfl rfl (by decide) (by first | assumption | rfl) (hT.get 0 rfl) ?_
    refine wp_iload_n (pc' := 13) rfl rfl rfl ?_
    refine wp_aaload (r' := (53 + 2 * r)) (pc' := 14) rfl rfl (by first | assumption | rfl) rfl (by omega) (by first | exact hst.2 | (rw [up_ne (by decide)]; exact hst.2)) ?_
    refine wp_iload_n (pc' := 15) rfl rfl rfl ?_
    refine wp_call (pc' := 18) rfl rfl rfl rfl rfl ⟨Nat.le_of_ble_eq_true rfl, Nat.le_of_ble_eq_true rfl, Nat.le_of_ble_eq_true rfl, Nat.le_of_ble_eq_true rfl, Nat.le_of_ble_eq_true rfl⟩ rfl (c_VH_placeRefusal (w := w) hT hst.1) ?_
    rintro v1 w1 (⟨hv1, hp1, hw1⟩ | ⟨hv1, hp1, hp2, hw1⟩ | ⟨hv1, hp1, hp2, hp3, hw1⟩)
    · skip
      rw [hv1]
      clear hv1 v1
      have hT := (by rw [hw1]; exact refW_stc hT : Stc w1)
      have e2 : w1 (-2) = w (-2) := by rw [hw1]; exact refW_ne (by decide) (by decide)
      have e102 : w1 102 r = w 102 r := by rw [hw1, refW_ne (by decide) (by decide)]
      dsimp only [Option.toList, List.cons_append, List.nil_append, List.append_nil]
      refine wp_goto (pc' := 22) rfl rfl ?_
      refine wp_istore (pc' := 24) rfl rfl (Nat.le_of_ble_eq_true rfl) rfl ?_
      dsimp only [lset, lset2, List.set, List.getElem?_cons_zero, List.getElem?_cons_succ]
      refine wp_iload (pc' := 26) rfl rfl rfl ?_
      refine wp_if_eq (pc' := 29) (pt := 32) rfl rfl rfl (fun q_2 => absurd q_2 (by decide)) (fun q_2 => ?_)
      refine wp_iload (pc' := 31) rfl rfl rfl ?_
      refine wp_ret rfl rfl rfl ?_
      refine ⟨_, rfl, ?_, ?_⟩
      · first | exact e2 | rfl
      refine wp_iload_n (pc' := 1) rfl rfl rfl ?_
      refine wp_call (pc' := 4) rfl rfl rfl rfl rfl ⟨Nat.le_of_ble_eq_true rfl, Nat.le_of_ble_eq_true rfl, Nat.le_of_ble_eq_true rfl, Nat.le_of_ble_eq_true rfl, Nat.le_of_ble_eq_true rfl⟩ rfl (c_Mod_isRow) ?_
      rintro v1 w9 ⟨hw9, ⟨hv1, hb1⟩ | ⟨hv1, hb1⟩⟩
      · skip
        rw [hv1, hw9]
        clear hv1 hw9 v1 w9
        dsimp only [Option.toList, List.cons_append, List.nil_append, List.append_nil]
        refine wp_if_ne (pc' := 7) (pt := 9) rfl rfl rfl (fun q_53 => ?_) (fun q_53 => absurd (by decide) q_53)
        refine wp_aload_n (pc' := 10) rfl rfl rfl (by decide) ?_
        refine wp_getR (r' := 102) (ci := 10) (k0 := 5) (pc' := 13) rfl rfl (by decide) (by first | assumption | rfl) (hT.get 100 rfl) ?_
        refine wp_iload_n (pc' := 14) rfl rfl rfl ?_
        refine wp_iaload (pc' := 15) rfl rfl (by first | assumption | rfl) (by omega) ?_
        refine wp_if_ge (pc' := 18) (pt := 24) rfl rfl rfl (fun q_54 => ?_) (fun q_54 => ?_)
        · skip
          refine wp_iload_n (pc' := 25) rfl rfl rfl ?_
          refine wp_iconst (a := 0) (pc' := 26) rfl rfl rfl ?_
          refine wp_aload_n (pc' := 27) rfl rfl rfl (by decide) ?_
          refine wp_getR (r' := 102) (ci := 10) (k0 := 5) (pc' := 30) rfl rfl (by decide) (by first | assumption | rfl) (hT.get 100 rfl) ?_
          refine wp_iload_n (pc' := 31) rfl rfl rfl ?_
          refine wp_iaload (pc' := 32) rfl rfl (by first | assumption | rfl) (by omega) ?_
          refine wp_iconst (a := 1) (pc' := 33) rfl rfl rfl ?_
          refine wp_isub (pc' := 34) rfl rfl (by first | exact w32_id (by omega) (by omega) | rfl) ?_
          refine wp_call (pc' := 37) rfl rfl rfl rfl rfl ⟨Nat.le_of_ble_eq_true rfl, Nat.le_of_ble_eq_true rfl, Nat.le_of_ble_eq_true rfl, Nat.le_of_ble_eq_true rfl, Nat.le_of_ble_eq_true rfl⟩ rfl (c_Mod_in) ?_
          rintro v1 w9 ⟨hw9, ⟨hv1, hb1⟩ | ⟨hv1, hb1⟩⟩
          · skip
            rw [hv1, hw9]
            clear hv1 hw9 v1 w9
            dsimp only [Option.toList, List.cons_append, List.nil_append, List.append_nil]
            refine wp_if_ne (pc' := 40) (pt := 46) rfl rfl rfl (fun q_55 => ?_) (fun q_55 => absurd (by decide) q_55)
            skip
            refine wp_aload_n (pc' := 47) rfl rfl rfl (by decide) ?_
            refine wp_iload_n (pc' := 48) rfl rfl rfl ?_
            refine wp_iload_n (pc' := 49) rfl rfl rfl ?_
            refine wp_call (pc' := 52) rfl rfl rfl rfl rfl ⟨Nat.le_of_ble_eq_true rfl, Nat.le_of_ble_eq_true rfl, Nat.le_of_ble_eq_true rfl, Nat.le_of_ble_eq_true rfl, Nat.le_of_ble_eq_true rfl⟩ rfl (c_Mod_rowAt hT (by omega) (by omega)) ?_
            intro v1 w9 hq1
            rw [hq1.1, hq1.2]
            clear hq1 v1 w9
            dsimp only [Option.toList, List.cons_append, List.nil_append, List.append_nil]
            refine wp_istore (pc' := 54) rfl rfl (Nat.le_of_ble_eq_true rfl) rfl ?_
            dsimp only [lset, lset2, List.set, List.getElem?_cons_zero, List.getElem?_cons_succ]
            refine wp_aload_n (pc' := 55) rfl rfl rfl (by decide) ?_
            refine wp_getR (r' := 103) (ci := 10) (k0 := 6) (pc' := 58) rfl rfl (by decide) (by first | assumption | rfl) (hT.get 101 rfl) ?_
            refine wp_bipush (a := 40) (pc' := 60) rfl rfl rfl ?_
            refine wp_iload_n (pc' := 61) rfl rfl rfl ?_
            refine wp_imul (pc' := 62) rfl rfl (by first | exact w32_id (by omega) (by omega) | rfl) ?_
            refine wp_iload_n (pc' := 63) rfl rfl rfl ?_
            refine wp_iadd (pc' := 64) rfl rfl (by first | exact w32_id (by omega) (by omega) | rfl) ?_
            refine wp_iload_n (pc' := 65) rfl rfl rfl ?_
            refine wp_iastore (pc' := 66) rfl rfl (by first | assumption | rfl) (by omega) ?_
            refine wp_aload_n (pc' := 67) rfl rfl rfl (by decide) ?_
            refine wp_iload (pc' := 69) rfl rfl rfl ?_
            refine wp_iconst (a := 1) (pc' := 70) rfl rfl rfl ?_
            refine wp_call (pc' := 73) rfl rfl rfl rfl rfl ⟨Nat.le_of_ble_eq_true rfl, Nat.le_of_ble_eq_true rfl, Nat.le_of_ble_eq_true rfl, Nat.le_of_ble_eq_true rfl, Nat.le_of_ble_eq_true rfl⟩ rfl (c_Mod_tells) ?_
            intro v1 w9 hq1
            rw [hq1.1, hq1.2]
            clear hq1 v1 w9
            dsimp only [Option.toList, List.cons_append, List.nil_append, List.append_nil]
            refine wp_ret rfl rfl rfl ?_
            first
            | (exfalso; omega)
            | exact ⟨rfl, rfl, hI⟩
            | exact ⟨rfl, by rw [hw9, up_ne (by decide), up_ne (by decide)], by rw [hw9, hw1]; exact refW_inv hI (by decide)⟩
            | (obtain ⟨hir1, hir2, hir3⟩ := hir
               have hij := hir3 i (by omega) (by omega)
               refine ⟨rfl, by rw [up_ne (by decide), up_ne (by decide)], hI.rows hbr.1 hbr.2 (w' := up (up w1 103 (40 * r + i) v) 100 2 (w1 103 (40 * r + i))) ?_ ?_ ⟨?_, ?_, ?_⟩ ?_⟩
               · rw [hw1]
                 exact (((((SameF.rf w _ _).put (Or.inr (by simp))).put (Or.inl (by simp))).put (Or.inl (by simp))).put (Or.inr (by simp)))
               · rw [up_eq, up_ne (by decide), up_ne (by decide), eo 103 (by decide) (by omega), hw1, up_ne (by omega), up_eq]
                 exact hij.1
               · rw [up_ne (by omega), up_ne (by omega), up_ne (by decide), up_ne (by decide), eo 102 (by decide) (by omega), eo (53 + 2 * r) (by omega) (by omega)]
                 exact hir1
               · rw [up_ne (by decide), up_ne (by decide), e102]
                 exact hir2
               · intro j a b
                 rw [up_ne (by decide), up_ne (by decide), e102] at b
                 rw [up_ne (show (54 + 2 * r : Int) ≠ 100 by omega), up_ne (show (54 + 2 * r : Int) ≠ 103 by omega), up_ne (show (103 : Int) ≠ 100 by decide)]
                 by_cases hj : j = i
                 · rw [hj, up_eq, hw1, up_eq]
                   exact ⟨rfl, hv⟩
                 · rw [up_at (show 40 * r + j ≠ 40 * r + i by omega), eo 103 (by decide) (by omega), hw1, up_at hj, up_ne (by omega)]
                   exact hir3 j a b
               · intro q a b hq
                 rw [up_ne (show (102 : Int) ≠ 100 by decide), up_ne (show (102 : Int) ≠ 103 by decide), eo 102 (by decide) (by omega)]
                 refine ⟨rfl, fun j x y => ?_⟩
                 rw [up_ne (show (103 : Int) ≠ 100 by decide), up_at (show 40 * q + j ≠ 40 * r + i by omega), eo 103 (by decide) (by omega)])
          · skip
            rw [hv1, hw9]
            clear hv1 hw9 v1 w9
            dsimp only [Option.toList, List.cons_append, List.nil_append, List.append_nil]
            refine wp_if_ne (pc' := 40) (pt := 46) rfl rfl rfl (fun q_56 => absurd q_56 (by decide)) (fun q_56 => ?_)
            refine wp_aload_n (pc' := 41) rfl rfl rfl (by decide) ?_
            refine wp_iconst (a := 2) (pc' := 42) rfl rfl rfl ?_
            refine wp_call (pc' := 45) rfl rfl rfl rfl rfl ⟨Nat.le_of_ble_eq_true rfl, Nat.le_of_ble_eq_true rfl, Nat.le_of_ble_eq_true rfl, Nat.le_of_ble_eq_true rfl, Nat.le_of_ble_eq_true rfl⟩ rfl (c_Mod_meets hT (by decide)) ?_
            rintro v1 w9 ⟨hv1, hw9⟩
            rw [hv1]
            clear hv1 v1
            dsimp only [Option.toList, List.cons_append, List.nil_append, List.append_nil]
            refine wp_ret rfl rfl rfl ?_
            first
            | (exfalso; omega)
            | exact ⟨rfl, rfl, hI⟩
            | exact ⟨rfl, by rw [hw9, up_ne (by decide), up_ne (by decide)], by rw [hw9, hw1]; exact refW_inv hI (by decide)⟩
            | (obtain ⟨hir1, hir2, hir3⟩ := hir
               have hij := hir3 i (by omega) (by omega)
               refine ⟨rfl, by rw [up_ne (by decide), up_ne (by decide)], hI.rows hbr.1 hbr.2 (w' := up (up w1 103 (40 * r + i) v) 100 2 (w1 103 (40 * r + i))) ?_ ?_ ⟨?_, ?_, ?_⟩ ?_⟩
               · rw [hw1]
                 exact (((((SameF.rf w _ _).put (Or.inr (by simp))).put (Or.inl (by simp))).put (Or.inl (by simp))).put (Or.inr (by simp)))
               · rw [up_eq, up_ne (by decide), up_ne (by decide), eo 103 (by decide) (by omega), hw1, up_ne (by omega), up_eq]
                 exact hij.1
               · rw [up_ne (by omega), up_ne (by omega), up_ne (by decide), up_ne (by decide), eo 102 (by decide) (by omega), eo (53 + 2 * r) (by omega) (by omega)]
                 exact hir1
               · rw [up_ne (by decide), up_ne (by decide), e102]
                 exact hir2
               · intro j a b
                 rw [up_ne (by decide), up_ne (by decide), e102] at b
                 rw [up_ne (show (54 + 2 * r : Int) ≠ 100 by omega), up_ne (show (54 + 2 * r : Int) ≠ 103 by omega), up_ne (show (103 : Int) ≠ 100 by decide)]
                 by_cases hj : j = i
                 · rw [hj, up_eq, hw1, up_eq]
                   exact ⟨rfl, hv⟩
                 · rw [up_at (show 40 * r + j ≠ 40 * r + i by omega), eo 103 (by decide) (by omega), hw1, up_at hj, up_ne (by omega)]
                   exact hir3 j a b
               · intro q a b hq
                 rw [up_ne (show (102 : Int) ≠ 100 by decide), up_ne (show (102 : Int) ≠ 103 by decide), eo 102 (by decide) (by omega)]
                 refine ⟨rfl, fun j x y => ?_⟩
                 rw [up_ne (show (103 : Int) ≠ 100 by decide), up_at (show 40 * q + j ≠ 40 * r + i by omega), eo 103 (by decide) (by omega)])
        · skip
          refine wp_aload_n (pc' := 19) rfl rfl rfl (by decide) ?_
          refine wp_iconst (a := 1) (pc' := 20) rfl rfl rfl ?_
          refine wp_call (pc' := 23) rfl rfl rfl rfl rfl ⟨Nat.le_of_ble_eq_true rfl, Nat.le_of_ble_eq_true rfl, Nat.le_of_ble_eq_true rfl, Nat.le_of_ble_eq_true rfl, Nat.le_of_ble_eq_true rfl⟩ rfl (c_Mod_meets hT (by decide)) ?_
          rintro v1 w9 ⟨hv1, hw9⟩
          rw [hv1]
          clear hv1 v1
          dsimp only [Option.toList, List.cons_append, List.nil_append, List.append_nil]
          refine wp_ret rfl rfl rfl ?_
          first
          | (exfalso; omega)
          | exact ⟨rfl, rfl, hI⟩
          | exact ⟨rfl, by rw [hw9, up_ne (by decide), up_ne (by decide)], by rw [hw9, hw1]; exact refW_inv hI (by decide)⟩
          | (obtain ⟨hir1, hir2, hir3⟩ := hir
             have hij := hir3 i (by omega) (by omega)
             refine ⟨rfl, by rw [up_ne (by decide), up_ne (by decide)], hI.rows hbr.1 hbr.2 (w' := up (up w1 103 (40 * r + i) v) 100 2 (w1 103 (40 * r + i))) ?_ ?_ ⟨?_, ?_, ?_⟩ ?_⟩
             · rw [hw1]
               exact (((((SameF.rf w _ _).put (Or.inr (by simp))).put (Or.inl (by simp))).put (Or.inl (by simp))).put (Or.inr (by simp)))
             · rw [up_eq, up_ne (by decide), up_ne (by decide), eo 103 (by decide) (by omega), hw1, up_ne (by omega), up_eq]
               exact hij.1
             · rw [up_ne (by omega), up_ne (by omega), up_ne (by decide), up_ne (by decide), eo 102 (by decide) (by omega), eo (53 + 2 * r) (by omega) (by omega)]
               exact hir1
             · rw [up_ne (by decide), up_ne (by decide), e102]
               exact hir2
             · intro j a b
               rw [up_ne (by decide), up_ne (by decide), e102] at b
               rw [up_ne (show (54 + 2 * r : Int) ≠ 100 by omega), up_ne (show (54 + 2 * r : Int) ≠ 103 by omega), up_ne (show (103 : Int) ≠ 100 by decide)]
               by_cases hj : j = i
               · rw [hj, up_eq, hw1, up_eq]
                 exact ⟨rfl, hv⟩
               · rw [up_at (show 40 * r + j ≠ 40 * r + i by omega), eo 103 (by decide) (by omega), hw1, up_at hj, up_ne (by omega)]
                 exact hir3 j a b
             · intro q a b hq
               rw [up_ne (show (102 : Int) ≠ 100 by decide), up_ne (show (102 : Int) ≠ 103 by decide), eo 102 (by decide) (by omega)]
               refine ⟨rfl, fun j x y => ?_⟩
               rw [up_ne (show (103 : Int) ≠ 100 by decide), up_at (show 40 * q + j ≠ 40 * r + i by omega), eo 103 (by decide) (by omega)])
      · skip
        rw [hv1, hw9]
        clear hv1 hw9 v1 w9
        dsimp only [Option.toList, List.cons_append, List.nil_append, List.append_nil]
        refine wp_if_ne (pc' := 7) (pt := 9) rfl rfl rfl (fun q_57 => absurd q_57 (by decide)) (fun q_57 => ?_)
        refine wp_iconst (a := -1) (pc' := 8) rfl rfl rfl ?_
        refine wp_ret rfl rfl rfl ?_
        first
        | (exfalso; omega)
        | exact ⟨rfl, rfl, hI⟩
        | exact ⟨rfl, by rw [hw9, up_ne (by decide), up_ne (by decide)], by rw [hw9, hw1]; exact refW_inv hI (by decide)⟩
        | (obtain ⟨hir1, hir2, hir3⟩ := hir
           have hij := hir3 i (by omega) (by omega)
           refine ⟨rfl, by rw [up_ne (by decide), up_ne (by decide)], hI.rows hbr.1 hbr.2 (w' := up (up w1 103 (40 * r + i) v) 100 2 (w1 103 (40 * r + i))) ?_ ?_ ⟨?_, ?_, ?_⟩ ?_⟩
           · rw [hw1]
             exact (((((SameF.rf w _ _).put (Or.inr (by simp))).put (Or.inl (by simp))).put (Or.inl (by simp))).put (Or.inr (by simp)))
           · rw [up_eq, up_ne (by decide), up_ne (by decide), eo 103 (by decide) (by omega), hw1, up_ne (by omega), up_eq]
             exact hij.1
           · rw [up_ne (by omega), up_ne (by omega), up_ne (by decide), up_ne (by decide), eo 102 (by decide) (by omega), eo (53 + 2 * r) (by omega) (by omega)]
             exact hir1
           · rw [up_ne (by decide), up_ne (by decide), e102]
             exact hir2
           · intro j a b
             rw [up_ne (by decide), up_ne (by decide), e102] at b
             rw [up_ne (show (54 + 2 * r : Int) ≠ 100 by omega), up_ne (show (54 + 2 * r : Int) ≠ 103 by omega), up_ne (show (103 : Int) ≠ 100 by decide)]
             by_cases hj : j = i
             · rw [hj, up_eq, hw1, up_eq]
               exact ⟨rfl, hv⟩
             · rw [up_at (show 40 * r + j ≠ 40 * r + i by omega), eo 103 (by decide) (by omega), hw1, up_at hj, up_ne (by omega)]
               exact hir3 j a b
           · intro q a b hq
             rw [up_ne (show (102 : Int) ≠ 100 by decide), up_ne (show (102 : Int) ≠ 103 by decide), eo 102 (by decide) (by omega)]
             refine ⟨rfl, fun j x y => ?_⟩
             rw [up_ne (show (103 : Int) ≠ 100 by decide), up_at (show 40 * q + j ≠ 40 * r + i by omega), eo 103 (by decide) (by omega)])
    · skip
      rw [hv1]
      clear hv1 v1
      have hT := (by rw [hw1]; exact refW_stc hT : Stc w1)
      have e2 : w1 (-2) = w (-2) := by rw [hw1]; exact refW_ne (by decide) (by decide)
      have e102 : w1 102 r = w 102 r := by rw [hw1, refW_ne (by decide) (by decide)]
      dsimp only [Option.toList, List.cons_append, List.nil_append, List.append_nil]
      refine wp_goto (pc' := 22) rfl rfl ?_
      refine wp_istore (pc' := 24) rfl rfl (Nat.le_of_ble_eq_true rfl) rfl ?_
      dsimp only [lset, lset2, List.set, List.getElem?_cons_zero, List.getElem?_cons_succ]
      refine wp_iload (pc' := 26) rfl rfl rfl ?_
      refine wp_if_eq (pc' := 29) (pt := 32) rfl rfl rfl (fun q_58 => absurd q_58 (by decide)) (fun q_58 => ?_)
      refine wp_iload (pc' := 31) rfl rfl rfl ?_
      refine wp_ret rfl rfl rfl ?_
      refine ⟨_, rfl, ?_, ?_⟩
      · first | exact e2 | rfl
      refine wp_iload_n (pc' := 1) rfl rfl rfl ?_
      refine wp_call (pc' := 4) rfl rfl rfl rfl rfl ⟨Nat.le_of_ble_eq_true rfl, Nat.le_of_ble_eq_true rfl, Nat.le_of_ble_eq_true rfl, Nat.le_of_ble_eq_true rfl, Nat.le_of_ble_eq_true rfl⟩ rfl (c_Mod_isRow) ?_
      rintro v1 w9 ⟨hw9, ⟨hv1, hb1⟩ | ⟨hv1, hb1⟩⟩
      · skip
        rw [hv1, hw9]
        clear hv1 hw9 v1 w9
        dsimp only [Option.toList, List.cons_append, List.nil_append, List.append_nil]
        refine wp_if_ne (pc' := 7) (pt := 9) rfl rfl rfl (fun q_109 => ?_) (fun q_109 => absurd (by decide) q_109)
        refine wp_aload_n (pc' := 10) rfl rfl rfl (by decide) ?_
        refine wp_getR (r' := 102) (ci := 10) (k0 := 5) (pc' := 13) rfl rfl (by decide) (by first | assumption | rfl) (hT.get 100 rfl) ?_
        refine wp_iload_n (pc' := 14) rfl rfl rfl ?_
        refine wp_iaload (pc' := 15) rfl rfl (by first | assumption | rfl) (by omega) ?_
        refine wp_if_ge (pc' := 18) (pt := 24) rfl rfl rfl (fun q_110 => ?_) (fun q_110 => ?_)
        · skip
          refine wp_iload_n (pc' := 25) rfl rfl rfl ?_
          refine wp_iconst (a := 0) (pc' := 26) rfl rfl rfl ?_
          refine wp_aload_n (pc' := 27) rfl rfl rfl (by decide) ?_
          refine wp_getR (r' := 102) (ci := 10) (k0 := 5) (pc' := 30) rfl rfl (by decide) (by first | assumption | rfl) (hT.get 100 rfl) ?_
          refine wp_iload_n (pc' := 31) rfl rfl rfl ?_
          refine wp_iaload (pc' := 32) rfl rfl (by first | assumption | rfl) (by omega) ?_
          refine wp_iconst (a := 1) (pc' := 33) rfl rfl rfl ?_
          refine wp_isub (pc' := 34) rfl rfl (by first | exact w32_id (by omega) (by omega) | rfl) ?_
          refine wp_call (pc' := 37) rfl rfl rfl rfl rfl ⟨Nat.le_of_ble_eq_true rfl, Nat.le_of_ble_eq_true rfl, Nat.le_of_ble_eq_true rfl, Nat.le_of_ble_eq_true rfl, Nat.le_of_ble_eq_true rfl⟩ rfl (c_Mod_in) ?_
          rintro v1 w9 ⟨hw9, ⟨hv1, hb1⟩ | ⟨hv1, hb1⟩⟩
          · skip
            rw [hv1, hw9]
            clear hv1 hw9 v1 w9
            dsimp only [Option.toList, List.cons_append, List.nil_append, List.append_nil]
            refine wp_if_ne (pc' := 40) (pt := 46) rfl rfl rfl (fun q_111 => ?_) (fun q_111 => absurd (by decide) q_111)
            skip
            refine wp_aload_n (pc' := 47) rfl rfl rfl (by decide) ?_
            refine wp_iload_n (pc' := 48) rfl rfl rfl ?_
            refine wp_iload_n (pc' := 49) rfl rfl rfl ?_
            refine wp_call (pc' := 52) rfl rfl rfl rfl rfl ⟨Nat.le_of_ble_eq_true rfl, Nat.le_of_ble_eq_true rfl, Nat.le_of_ble_eq_true rfl, Nat.le_of_ble_eq_true rfl, Nat.le_of_ble_eq_true rfl⟩ rfl (c_Mod_rowAt hT (by omega) (by omega)) ?_
            intro v1 w9 hq1
            rw [hq1.1, hq1.2]
            clear hq1 v1 w9
            dsimp only [Option.toList, List.cons_append, List.nil_append, List.append_nil]
            refine wp_istore (pc' := 54) rfl rfl (Nat.le_of_ble_eq_true rfl) rfl ?_
            dsimp only [lset, lset2, List.set, List.getElem?_cons_zero, List.getElem?_cons_succ]
            refine wp_aload_n (pc' := 55) rfl rfl rfl (by decide) ?_
            refine wp_getR (r' := 103) (ci := 10) (k0 := 6) (pc' := 58) rfl rfl (by decide) (by first | assumption | rfl) (hT.get 101 rfl) ?_
            refine wp_bipush (a := 40) (pc' := 60) rfl rfl rfl ?_
            refine wp_iload_n (pc' := 61) rfl rfl rfl ?_
            refine wp_imul (pc' := 62) rfl rfl (by first | exact w32_id (by omega) (by omega) | rfl) ?_
            refine wp_iload_n (pc' := 63) rfl rfl rfl ?_
            refine wp_iadd (pc' := 64) rfl rfl (by first | exact w32_id (by omega) (by omega) | rfl) ?_
            refine wp_iload_n (pc' := 65) rfl rfl rfl ?_
            refine wp_iastore (pc' := 66) rfl rfl (by first | assumption | rfl) (by omega) ?_
            refine wp_aload_n (pc' := 67) rfl rfl rfl (by decide) ?_
            refine wp_iload (pc' := 69) rfl rfl rfl ?_
            refine wp_iconst (a := 1) (pc' := 70) rfl rfl rfl ?_
            refine wp_call (pc' := 73) rfl rfl rfl rfl rfl ⟨Nat.le_of_ble_eq_true rfl, Nat.le_of_ble_eq_true rfl, Nat.le_of_ble_eq_true rfl, Nat.le_of_ble_eq_true rfl, Nat.le_of_ble_eq_true rfl⟩ rfl (c_Mod_tells) ?_
            intro v1 w9 hq1
            rw [hq1.1, hq1.2]
            clear hq1 v1 w9
            dsimp only [Option.toList, List.cons_append, List.nil_append, List.append_nil]
            refine wp_ret rfl rfl rfl ?_
            first
            | (exfalso; omega)
            | exact ⟨rfl, rfl, hI⟩
            | exact ⟨rfl, by rw [hw9, up_ne (by decide), up_ne (by decide)], by rw [hw9, hw1]; exact refW_inv hI (by decide)⟩
            | (obtain ⟨hir1, hir2, hir3⟩ := hir
               have hij := hir3 i (by omega) (by omega)
               refine ⟨rfl, by rw [up_ne (by decide), up_ne (by decide)], hI.rows hbr.1 hbr.2 (w' := up (up w1 103 (40 * r + i) v) 100 2 (w1 103 (40 * r + i))) ?_ ?_ ⟨?_, ?_, ?_⟩ ?_⟩
               · rw [hw1]
                 exact (((((SameF.rf w _ _).put (Or.inr (by simp))).put (Or.inl (by simp))).put (Or.inl (by simp))).put (Or.inr (by simp)))
               · rw [up_eq, up_ne (by decide), up_ne (by decide), eo 103 (by decide) (by omega), hw1, up_ne (by omega), up_eq]
                 exact hij.1
               · rw [up_ne (by omega), up_ne (by omega), up_ne (by decide), up_ne (by decide), eo 102 (by decide) (by omega), eo (53 + 2 * r) (by omega) (by omega)]
                 exact hir1
               · rw [up_ne (by decide), up_ne (by decide), e102]
                 exact hir2
               · intro j a b
                 rw [up_ne (by decide), up_ne (by decide), e102] at b
                 rw [up_ne (show (54 + 2 * r : Int) ≠ 100 by omega), up_ne (show (54 + 2 * r : Int) ≠ 103 by omega), up_ne (show (103 : Int) ≠ 100 by decide)]
                 by_cases hj : j = i
                 · rw [hj, up_eq, hw1, up_eq]
                   exact ⟨rfl, hv⟩
                 · rw [up_at (show 40 * r + j ≠ 40 * r + i by omega), eo 103 (by decide) (by omega), hw1, up_at hj, up_ne (by omega)]
                   exact hir3 j a b
               · intro q a b hq
                 rw [up_ne (show (102 : Int) ≠ 100 by decide), up_ne (show (102 : Int) ≠ 103 by decide), eo 102 (by decide) (by omega)]
                 refine ⟨rfl, fun j x y => ?_⟩
                 rw [up_ne (show (103 : Int) ≠ 100 by decide), up_at (show 40 * q + j ≠ 40 * r + i by omega), eo 103 (by decide) (by omega)])
          · skip
            rw [hv1, hw9]
            clear hv1 hw9 v1 w9
            dsimp only [Option.toList, List.cons_append, List.nil_append, List.append_nil]
            refine wp_if_ne (pc' := 40) (pt := 46) rfl rfl rfl (fun q_112 => absurd q_112 (by decide)) (fun q_112 => ?_)
            refine wp_aload_n (pc' := 41) rfl rfl rfl (by decide) ?_
            refine wp_iconst (a := 2) (pc' := 42) rfl rfl rfl ?_
            refine wp_call (pc' := 45) rfl rfl rfl rfl rfl ⟨Nat.le_of_ble_eq_true rfl, Nat.le_of_ble_eq_true rfl, Nat.le_of_ble_eq_true rfl, Nat.le_of_ble_eq_true rfl, Nat.le_of_ble_eq_true rfl⟩ rfl (c_Mod_meets hT (by decide)) ?_
            rintro v1 w9 ⟨hv1, hw9⟩
            rw [hv1]
            clear hv1 v1
            dsimp only [Option.toList, List.cons_append, List.nil_append, List.append_nil]
            refine wp_ret rfl rfl rfl ?_
            first
            | (exfalso; omega)
            | exact ⟨rfl, rfl, hI⟩
            | exact ⟨rfl, by rw [hw9, up_ne (by decide), up_ne (by decide)], by rw [hw9, hw1]; exact refW_inv hI (by decide)⟩
            | (obtain ⟨hir1, hir2, hir3⟩ := hir
               have hij := hir3 i (by omega) (by omega)
               refine ⟨rfl, by rw [up_ne (by decide), up_ne (by decide)], hI.rows hbr.1 hbr.2 (w' := up (up w1 103 (40 * r + i) v) 100 2 (w1 103 (40 * r + i))) ?_ ?_ ⟨?_, ?_, ?_⟩ ?_⟩
               · rw [hw1]
                 exact (((((SameF.rf w _ _).put (Or.inr (by simp))).put (Or.inl (by simp))).put (Or.inl (by simp))).put (Or.inr (by simp)))
               · rw [up_eq, up_ne (by decide), up_ne (by decide), eo 103 (by decide) (by omega), hw1, up_ne (by omega), up_eq]
                 exact hij.1
               · rw [up_ne (by omega), up_ne (by omega), up_ne (by decide), up_ne (by decide), eo 102 (by decide) (by omega), eo (53 + 2 * r) (by omega) (by omega)]
                 exact hir1
               · rw [up_ne (by decide), up_ne (by decide), e102]
                 exact hir2
               · intro j a b
                 rw [up_ne (by decide), up_ne (by decide), e102] at b
                 rw [up_ne (show (54 + 2 * r : Int) ≠ 100 by omega), up_ne (show (54 + 2 * r : Int) ≠ 103 by omega), up_ne (show (103 : Int) ≠ 100 by decide)]
                 by_cases hj : j = i
                 · rw [hj, up_eq, hw1, up_eq]
                   exact ⟨rfl, hv⟩
                 · rw [up_at (show 40 * r + j ≠ 40 * r + i by omega), eo 103 (by decide) (by omega), hw1, up_at hj, up_ne (by omega)]
                   exact hir3 j a b
               · intro q a b hq
                 rw [up_ne (show (102 : Int) ≠ 100 by decide), up_ne (show (102 : Int) ≠ 103 by decide), eo 102 (by decide) (by omega)]
                 refine ⟨rfl, fun j x y => ?_⟩
                 rw [up_ne (show (103 : Int) ≠ 100 by decide), up_at (show 40 * q + j ≠ 40 * r + i by omega), eo 103 (by decide) (by omega)])
        · skip
          refine wp_aload_n (pc' := 19) rfl rfl rfl (by decide) ?_
          refine wp_iconst (a := 1) (pc' := 20) rfl rfl rfl ?_
          refine wp_call (pc' := 23) rfl rfl rfl rfl rfl ⟨Nat.le_of_ble_eq_true rfl, Nat.le_of_ble_eq_true rfl, Nat.le_of_ble_eq_true rfl, Nat.le_of_ble_eq_true rfl, Nat.le_of_ble_eq_true rfl⟩ rfl (c_Mod_meets hT (by decide)) ?_
          rintro v1 w9 ⟨hv1, hw9⟩
          rw [hv1]
          clear hv1 v1
          dsimp only [Option.toList, List.cons_append, List.nil_append, List.append_nil]
          refine wp_ret rfl rfl rfl ?_
          first
          | (exfalso; omega)
          | exact ⟨rfl, rfl, hI⟩
          | exact ⟨rfl, by rw [hw9, up_ne (by decide), up_ne (by decide)], by rw [hw9, hw1]; exact refW_inv hI (by decide)⟩
          | (obtain ⟨hir1, hir2, hir3⟩ := hir
             have hij := hir3 i (by omega) (by omega)
             refine ⟨rfl, by rw [up_ne (by decide), up_ne (by decide)], hI.rows hbr.1 hbr.2 (w' := up (up w1 103 (40 * r + i) v) 100 2 (w1 103 (40 * r + i))) ?_ ?_ ⟨?_, ?_, ?_⟩ ?_⟩
             · rw [hw1]
               exact (((((SameF.rf w _ _).put (Or.inr (by simp))).put (Or.inl (by simp))).put (Or.inl (by simp))).put (Or.inr (by simp)))
             · rw [up_eq, up_ne (by decide), up_ne (by decide), eo 103 (by decide) (by omega), hw1, up_ne (by omega), up_eq]
               exact hij.1
             · rw [up_ne (by omega), up_ne (by omega), up_ne (by decide), up_ne (by decide), eo 102 (by decide) (by omega), eo (53 + 2 * r) (by omega) (by omega)]
               exact hir1
             · rw [up_ne (by decide), up_ne (by decide), e102]
               exact hir2
             · intro j a b
               rw [up_ne (by decide), up_ne (by decide), e102] at b
               rw [up_ne (show (54 + 2 * r : Int) ≠ 100 by omega), up_ne (show (54 + 2 * r : Int) ≠ 103 by omega), up_ne (show (103 : Int) ≠ 100 by decide)]
               by_cases hj : j = i
               · rw [hj, up_eq, hw1, up_eq]
                 exact ⟨rfl, hv⟩
               · rw [up_at (show 40 * r + j ≠ 40 * r + i by omega), eo 103 (by decide) (by omega), hw1, up_at hj, up_ne (by omega)]
                 exact hir3 j a b
             · intro q a b hq
               rw [up_ne (show (102 : Int) ≠ 100 by decide), up_ne (show (102 : Int) ≠ 103 by decide), eo 102 (by decide) (by omega)]
               refine ⟨rfl, fun j x y => ?_⟩
               rw [up_ne (show (103 : Int) ≠ 100 by decide), up_at (show 40 * q + j ≠ 40 * r + i by omega), eo 103 (by decide) (by omega)])
      · skip
        rw [hv1, hw9]
        clear hv1 hw9 v1 w9
        dsimp only [Option.toList, List.cons_append, List.nil_append, List.append_nil]
        refine wp_if_ne (pc' := 7) (pt := 9) rfl rfl rfl (fun q_113 => absurd q_113 (by decide)) (fun q_113 => ?_)
        refine wp_iconst (a := -1) (pc' := 8) rfl rfl rfl ?_
        refine wp_ret rfl rfl rfl ?_
        first
        | (exfalso; omega)
        | exact ⟨rfl, rfl, hI⟩
        | exact ⟨rfl, by rw [hw9, up_ne (by decide), up_ne (by decide)], by rw [hw9, hw1]; exact refW_inv hI (by decide)⟩
        | (obtain ⟨hir1, hir2, hir3⟩ := hir
           have hij := hir3 i (by omega) (by omega)
           refine ⟨rfl, by rw [up_ne (by decide), up_ne (by decide)], hI.rows hbr.1 hbr.2 (w' := up (up w1 103 (40 * r + i) v) 100 2 (w1 103 (40 * r + i))) ?_ ?_ ⟨?_, ?_, ?_⟩ ?_⟩
           · rw [hw1]
             exact (((((SameF.rf w _ _).put (Or.inr (by simp))).put (Or.inl (by simp))).put (Or.inl (by simp))).put (Or.inr (by simp)))
           · rw [up_eq, up_ne (by decide), up_ne (by decide), eo 103 (by decide) (by omega), hw1, up_ne (by omega), up_eq]
             exact hij.1
           · rw [up_ne (by omega), up_ne (by omega), up_ne (by decide), up_ne (by decide), eo 102 (by decide) (by omega), eo (53 + 2 * r) (by omega) (by omega)]
             exact hir1
           · rw [up_ne (by decide), up_ne (by decide), e102]
             exact hir2
           · intro j a b
             rw [up_ne (by decide), up_ne (by decide), e102] at b
             rw [up_ne (show (54 + 2 * r : Int) ≠ 100 by omega), up_ne (show (54 + 2 * r : Int) ≠ 103 by omega), up_ne (show (103 : Int) ≠ 100 by decide)]
             by_cases hj : j = i
             · rw [hj, up_eq, hw1, up_eq]
               exact ⟨rfl, hv⟩
             · rw [up_at (show 40 * r + j ≠ 40 * r + i by omega), eo 103 (by decide) (by omega), hw1, up_at hj, up_ne (by omega)]
               exact hir3 j a b
           · intro q a b hq
             rw [up_ne (show (102 : Int) ≠ 100 by decide), up_ne (show (102 : Int) ≠ 103 by decide), eo 102 (by decide) (by omega)]
             refine ⟨rfl, fun j x y => ?_⟩
             rw [up_ne (show (103 : Int) ≠ 100 by decide), up_at (show 40 * q + j ≠ 40 * r + i by omega), eo 103 (by decide) (by omega)])
    · skip
      rw [hv1, hw1]
      clear hv1 hw1 v1 w1
      dsimp only [Option.toList, List.cons_append, List.nil_append, List.append_nil]
      refine wp_goto (pc' := 22) rfl rfl ?_
      refine wp_istore (pc' := 24) rfl rfl (Nat.le_of_ble_eq_true rfl) rfl ?_
      dsimp only [lset, lset2, List.set, List.getElem?_cons_zero, List.getElem?_cons_succ]
      refine wp_iload (pc' := 26) rfl rfl rfl ?_
      refine wp_if_eq (pc' := 29) (pt := 32) rfl rfl rfl (fun q_114 => ?_) (fun q_114 => absurd (by decide) q_114)
      refine wp_aload_n (pc' := 33) rfl rfl rfl (by decide) ?_
      refine wp_aload_n (pc' := 34) rfl rfl rfl (by decide) ?_
      refine wp_getR (r' := 1) (ci := 9) (k0 := 0) (pc' := 37) rfl rfl (by decide) (by first | assumption | rfl) (hT.get 0 rfl) ?_
      refine wp_iload_n (pc' := 38) rfl rfl rfl ?_
      refine wp_aaload (r' := (53 + 2 * r)) (pc' := 39) rfl rfl (by first | assumption | rfl) rfl (by omega) (by first | exact hst.2 | (rw [up_ne (by decide)]; exact hst.2)) ?_
      refine wp_getR (r' := (54 + 2 * r)) (ci := 7) (k0 := 0) (pc' := 42) rfl rfl (by decide) (by first | assumption | rfl) (by first | exact hst.1.2.2.1 | (rw [up_ne (by omega)]; exact hst.1.2.2.1)) ?_
      refine wp_iload_n (pc' := 43) rfl rfl rfl ?_
      refine wp_iaload (pc' := 44) rfl rfl (by first | assumption | rfl) (by omega) ?_
      refine wp_putI (ci := 9) (k0 := 14) (pc' := 47) rfl rfl (by decide) (by first | assumption | rfl) ?_
      have hT := hT.putF (r := 0) (i := 14) (x := w (54 + 2 * r) i) (by decide)
      refine wp_aload_n (pc' := 48) rfl rfl rfl (by decide) ?_
      refine wp_getR (r' := 1) (ci := 9) (k0 := 0) (pc' := 51) rfl rfl (by decide) (by first | assumption | rfl) (hT.get 0 rfl) ?_
      refine wp_iload_n (pc' := 52) rfl rfl rfl ?_
      refine wp_aaload (r' := (53 + 2 * r)) (pc' := 53) rfl rfl (by first | assumption | rfl) rfl (by omega) (by first | exact hst.2 | (rw [up_ne (by decide)]; exact hst.2)) ?_
      refine wp_getR (r' := (54 + 2 * r)) (ci := 7) (k0 := 0) (pc' := 56) rfl rfl (by decide) (by first | assumption | rfl) (by first | exact hst.1.2.2.1 | (rw [up_ne (by omega)]; exact hst.1.2.2.1)) ?_
      refine wp_iload_n (pc' := 57) rfl rfl rfl ?_
      refine wp_iload_n (pc' := 58) rfl rfl rfl ?_
      refine wp_iastore (pc' := 59) rfl rfl (by first | assumption | rfl) (by omega) ?_
      refine wp_iconst (a := 1) (pc' := 60) rfl rfl rfl ?_
      refine wp_ret rfl rfl rfl ?_
      refine ⟨_, rfl, ?_, ?_⟩
      · rw [up_ne (by omega), up_ne (by decide)]
      obtain ⟨w1, hw1⟩ : ∃ w1, w1 = up (up w 0 14 (w (54 + 2 * r) i)) (54 + 2 * r) i v := ⟨_, rfl⟩
      rw [← hw1]
      have hT : Stc w1 := by rw [hw1]; exact Stc.row hT hbr.1 hbr.2 ((SameF.rf _ _ _).put (Or.inl (by simp)))
      have eo : ∀ q : Int, q ≠ 0 → q ≠ 54 + 2 * r → w1 q = w q := fun q a b => by rw [hw1, up_ne b, up_ne a]
      have e102 : w1 102 r = w 102 r := by rw [eo 102 (by decide) (by omega)]
      refine wp_iload_n (pc' := 1) rfl rfl rfl ?_
      refine wp_call (pc' := 4) rfl rfl rfl rfl rfl ⟨Nat.le_of_ble_eq_true rfl, Nat.le_of_ble_eq_true rfl, Nat.le_of_ble_eq_true rfl, Nat.le_of_ble_eq_true rfl, Nat.le_of_ble_eq_true rfl⟩ rfl (c_Mod_isRow) ?_
      rintro v1 w9 ⟨hw9, ⟨hv1, hb1⟩ | ⟨hv1, hb1⟩⟩
      · skip
        rw [hv1, hw9]
        clear hv1 hw9 v1 w9
        dsimp only [Option.toList, List.cons_append, List.nil_append, List.append_nil]
        refine wp_if_ne (pc' := 7) (pt := 9) rfl rfl rfl (fun q_165 => ?_) (fun q_165 => absurd (by decide) q_165)
        refine wp_aload_n (pc' := 10) rfl rfl rfl (by decide) ?_
        refine wp_getR (r' := 102) (ci := 10) (k0 := 5) (pc' := 13) rfl rfl (by decide) (by first | assumption | rfl) (hT.get 100 rfl) ?_
        refine wp_iload_n (pc' := 14) rfl rfl rfl ?_
        refine wp_iaload (pc' := 15) rfl rfl (by first | assumption | rfl) (by omega) ?_
        refine wp_if_ge (pc' := 18) (pt := 24) rfl rfl rfl (fun q_166 => ?_) (fun q_166 => ?_)
        · skip
          refine wp_iload_n (pc' := 25) rfl rfl rfl ?_
          refine wp_iconst (a := 0) (pc' := 26) rfl rfl rfl ?_
          refine wp_aload_n (pc' := 27) rfl rfl rfl (by decide) ?_
          refine wp_getR (r' := 102) (ci := 10) (k0 := 5) (pc' := 30) rfl rfl (by decide) (by first | assumption | rfl) (hT.get 100 rfl) ?_
          refine wp_iload_n (pc' := 31) rfl rfl rfl ?_
          refine wp_iaload (pc' := 32) rfl rfl (by first | assumption | rfl) (by omega) ?_
          refine wp_iconst (a := 1) (pc' := 33) rfl rfl rfl ?_
          refine wp_isub (pc' := 34) rfl rfl (by first | exact w32_id (by omega) (by omega) | rfl) ?_
          refine wp_call (pc' := 37) rfl rfl rfl rfl rfl ⟨Nat.le_of_ble_eq_true rfl, Nat.le_of_ble_eq_true rfl, Nat.le_of_ble_eq_true rfl, Nat.le_of_ble_eq_true rfl, Nat.le_of_ble_eq_true rfl⟩ rfl (c_Mod_in) ?_
          rintro v1 w9 ⟨hw9, ⟨hv1, hb1⟩ | ⟨hv1, hb1⟩⟩
          · skip
            rw [hv1, hw9]
            clear hv1 hw9 v1 w9
            dsimp only [Option.toList, List.cons_append, List.nil_append, List.append_nil]
            refine wp_if_ne (pc' := 40) (pt := 46) rfl rfl rfl (fun q_167 => ?_) (fun q_167 => absurd (by decide) q_167)
            skip
            refine wp_aload_n (pc' := 47) rfl rfl rfl (by decide) ?_
            refine wp_iload_n (pc' := 48) rfl rfl rfl ?_
            refine wp_iload_n (pc' := 49) rfl rfl rfl ?_
            refine wp_call (pc' := 52) rfl rfl rfl rfl rfl ⟨Nat.le_of_ble_eq_true rfl, Nat.le_of_ble_eq_true rfl, Nat.le_of_ble_eq_true rfl, Nat.le_of_ble_eq_true rfl, Nat.le_of_ble_eq_true rfl⟩ rfl (c_Mod_rowAt hT (by omega) (by omega)) ?_
            intro v1 w9 hq1
            rw [hq1.1, hq1.2]
            clear hq1 v1 w9
            dsimp only [Option.toList, List.cons_append, List.nil_append, List.append_nil]
            refine wp_istore (pc' := 54) rfl rfl (Nat.le_of_ble_eq_true rfl) rfl ?_
            dsimp only [lset, lset2, List.set, List.getElem?_cons_zero, List.getElem?_cons_succ]
            refine wp_aload_n (pc' := 55) rfl rfl rfl (by decide) ?_
            refine wp_getR (r' := 103) (ci := 10) (k0 := 6) (pc' := 58) rfl rfl (by decide) (by first | assumption | rfl) (hT.get 101 rfl) ?_
            refine wp_bipush (a := 40) (pc' := 60) rfl rfl rfl ?_
            refine wp_iload_n (pc' := 61) rfl rfl rfl ?_
            refine wp_imul (pc' := 62) rfl rfl (by first | exact w32_id (by omega) (by omega) | rfl) ?_
            refine wp_iload_n (pc' := 63) rfl rfl rfl ?_
            refine wp_iadd (pc' := 64) rfl rfl (by first | exact w32_id (by omega) (by omega) | rfl) ?_
            refine wp_iload_n (pc' := 65) rfl rfl rfl ?_
            refine wp_iastore (pc' := 66) rfl rfl (by first | assumption | rfl) (by omega) ?_
            refine wp_aload_n (pc' := 67) rfl rfl rfl (by decide) ?_
            refine wp_iload (pc' := 69) rfl rfl rfl ?_
            refine wp_iconst (a := 1) (pc' := 70) rfl rfl rfl ?_
            refine wp_call (pc' := 73) rfl rfl rfl rfl rfl ⟨Nat.le_of_ble_eq_true rfl, Nat.le_of_ble_eq_true rfl, Nat.le_of_ble_eq_true rfl, Nat.le_of_ble_eq_true rfl, Nat.le_of_ble_eq_true rfl⟩ rfl (c_Mod_tells) ?_
            intro v1 w9 hq1
            rw [hq1.1, hq1.2]
            clear hq1 v1 w9
            dsimp only [Option.toList, List.cons_append, List.nil_append, List.append_nil]
            refine wp_ret rfl rfl rfl ?_
            first
            | (exfalso; omega)
            | exact ⟨rfl, rfl, hI⟩
            | exact ⟨rfl, by rw [hw9, up_ne (by decide), up_ne (by decide)], by rw [hw9, hw1]; exact refW_inv hI (by decide)⟩
            | (obtain ⟨hir1, hir2, hir3⟩ := hir
               have hij := hir3 i (by omega) (by omega)
               refine ⟨rfl, by rw [up_ne (by decide), up_ne (by decide)], hI.rows hbr.1 hbr.2 (w' := up (up w1 103 (40 * r + i) v) 100 2 (w1 103 (40 * r + i))) ?_ ?_ ⟨?_, ?_, ?_⟩ ?_⟩
               · rw [hw1]
                 exact (((((SameF.rf w _ _).put (Or.inr (by simp))).put (Or.inl (by simp))).put (Or.inl (by simp))).put (Or.inr (by simp)))
               · rw [up_eq, up_ne (by decide), up_ne (by decide), eo 103 (by decide) (by omega), hw1, up_ne (by omega), up_eq]
                 exact hij.1
               · rw [up_ne (by omega), up_ne (by omega), up_ne (by decide), up_ne (by decide), eo 102 (by decide) (by omega), eo (53 + 2 * r) (by omega) (by omega)]
                 exact hir1
               · rw [up_ne (by decide), up_ne (by decide), e102]
                 exact hir2
               · intro j a b
                 rw [up_ne (by decide), up_ne (by decide), e102] at b
                 rw [up_ne (show (54 + 2 * r : Int) ≠ 100 by omega), up_ne (show (54 + 2 * r : Int) ≠ 103 by omega), up_ne (show (103 : Int) ≠ 100 by decide)]
                 by_cases hj : j = i
                 · rw [hj, up_eq, hw1, up_eq]
                   exact ⟨rfl, hv⟩
                 · rw [up_at (show 40 * r + j ≠ 40 * r + i by omega), eo 103 (by decide) (by omega), hw1, up_at hj, up_ne (by omega)]
                   exact hir3 j a b
               · intro q a b hq
                 rw [up_ne (show (102 : Int) ≠ 100 by decide), up_ne (show (102 : Int) ≠ 103 by decide), eo 102 (by decide) (by omega)]
                 refine ⟨rfl, fun j x y => ?_⟩
                 rw [up_ne (show (103 : Int) ≠ 100 by decide), up_at (show 40 * q + j ≠ 40 * r + i by omega), eo 103 (by decide) (by omega)])
          · skip
            rw [hv1, hw9]
            clear hv1 hw9 v1 w9
            dsimp only [Option.toList, List.cons_append, List.nil_append, List.append_nil]
            refine wp_if_ne (pc' := 40) (pt := 46) rfl rfl rfl (fun q_168 => absurd q_168 (by decide)) (fun q_168 => ?_)
            refine wp_aload_n (pc' := 41) rfl rfl rfl (by decide) ?_
            refine wp_iconst (a := 2) (pc' := 42) rfl rfl rfl ?_
            refine wp_call (pc' := 45) rfl rfl rfl rfl rfl ⟨Nat.le_of_ble_eq_true rfl, Nat.le_of_ble_eq_true rfl, Nat.le_of_ble_eq_true rfl, Nat.le_of_ble_eq_true rfl, Nat.le_of_ble_eq_true rfl⟩ rfl (c_Mod_meets hT (by decide)) ?_
            rintro v1 w9 ⟨hv1, hw9⟩
            rw [hv1]
            clear hv1 v1
            dsimp only [Option.toList, List.cons_append, List.nil_append, List.append_nil]
            refine wp_ret rfl rfl rfl ?_
            first
            | (exfalso; omega)
            | exact ⟨rfl, rfl, hI⟩
            | exact ⟨rfl, by rw [hw9, up_ne (by decide), up_ne (by decide)], by rw [hw9, hw1]; exact refW_inv hI (by decide)⟩
            | (obtain ⟨hir1, hir2, hir3⟩ := hir
               have hij := hir3 i (by omega) (by omega)
               refine ⟨rfl, by rw [up_ne (by decide), up_ne (by decide)], hI.rows hbr.1 hbr.2 (w' := up (up w1 103 (40 * r + i) v) 100 2 (w1 103 (40 * r + i))) ?_ ?_ ⟨?_, ?_, ?_⟩ ?_⟩
               · rw [hw1]
                 exact (((((SameF.rf w _ _).put (Or.inr (by simp))).put (Or.inl (by simp))).put (Or.inl (by simp))).put (Or.inr (by simp)))
               · rw [up_eq, up_ne (by decide), up_ne (by decide), eo 103 (by decide) (by omega), hw1, up_ne (by omega), up_eq]
                 exact hij.1
               · rw [up_ne (by omega), up_ne (by omega), up_ne (by decide), up_ne (by decide), eo 102 (by decide) (by omega), eo (53 + 2 * r) (by omega) (by omega)]
                 exact hir1
               · rw [up_ne (by decide), up_ne (by decide), e102]
                 exact hir2
               · intro j a b
                 rw [up_ne (by decide), up_ne (by decide), e102] at b
                 rw [up_ne (show (54 + 2 * r : Int) ≠ 100 by omega), up_ne (show (54 + 2 * r : Int) ≠ 103 by omega), up_ne (show (103 : Int) ≠ 100 by decide)]
                 by_cases hj : j = i
                 · rw [hj, up_eq, hw1, up_eq]
                   exact ⟨rfl, hv⟩
                 · rw [up_at (show 40 * r + j ≠ 40 * r + i by omega), eo 103 (by decide) (by omega), hw1, up_at hj, up_ne (by omega)]
                   exact hir3 j a b
               · intro q a b hq
                 rw [up_ne (show (102 : Int) ≠ 100 by decide), up_ne (show (102 : Int) ≠ 103 by decide), eo 102 (by decide) (by omega)]
                 refine ⟨rfl, fun j x y => ?_⟩
                 rw [up_ne (show (103 : Int) ≠ 100 by decide), up_at (show 40 * q + j ≠ 40 * r + i by omega), eo 103 (by decide) (by omega)])
        · skip
          refine wp_aload_n (pc' := 19) rfl rfl rfl (by decide) ?_
          refine wp_iconst (a := 1) (pc' := 20) rfl rfl rfl ?_
          refine wp_call (pc' := 23) rfl rfl rfl rfl rfl ⟨Nat.le_of_ble_eq_true rfl, Nat.le_of_ble_eq_true rfl, Nat.le_of_ble_eq_true rfl, Nat.le_of_ble_eq_true rfl, Nat.le_of_ble_eq_true rfl⟩ rfl (c_Mod_meets hT (by decide)) ?_
          rintro v1 w9 ⟨hv1, hw9⟩
          rw [hv1]
          clear hv1 v1
          dsimp only [Option.toList, List.cons_append, List.nil_append, List.append_nil]
          refine wp_ret rfl rfl rfl ?_
          first
          | (exfalso; omega)
          | exact ⟨rfl, rfl, hI⟩
          | exact ⟨rfl, by rw [hw9, up_ne (by decide), up_ne (by decide)], by rw [hw9, hw1]; exact refW_inv hI (by decide)⟩
          | (obtain ⟨hir1, hir2, hir3⟩ := hir
             have hij := hir3 i (by omega) (by omega)
             refine ⟨rfl, by rw [up_ne (by decide), up_ne (by decide)], hI.rows hbr.1 hbr.2 (w' := up (up w1 103 (40 * r + i) v) 100 2 (w1 103 (40 * r + i))) ?_ ?_ ⟨?_, ?_, ?_⟩ ?_⟩
             · rw [hw1]
               exact (((((SameF.rf w _ _).put (Or.inr (by simp))).put (Or.inl (by simp))).put (Or.inl (by simp))).put (Or.inr (by simp)))
             · rw [up_eq, up_ne (by decide), up_ne (by decide), eo 103 (by decide) (by omega), hw1, up_ne (by omega), up_eq]
               exact hij.1
             · rw [up_ne (by omega), up_ne (by omega), up_ne (by decide), up_ne (by decide), eo 102 (by decide) (by omega), eo (53 + 2 * r) (by omega) (by omega)]
               exact hir1
             · rw [up_ne (by decide), up_ne (by decide), e102]
               exact hir2
             · intro j a b
               rw [up_ne (by decide), up_ne (by decide), e102] at b
               rw [up_ne (show (54 + 2 * r : Int) ≠ 100 by omega), up_ne (show (54 + 2 * r : Int) ≠ 103 by omega), up_ne (show (103 : Int) ≠ 100 by decide)]
               by_cases hj : j = i
               · rw [hj, up_eq, hw1, up_eq]
                 exact ⟨rfl, hv⟩
               · rw [up_at (show 40 * r + j ≠ 40 * r + i by omega), eo 103 (by decide) (by omega), hw1, up_at hj, up_ne (by omega)]
                 exact hir3 j a b
             · intro q a b hq
               rw [up_ne (show (102 : Int) ≠ 100 by decide), up_ne (show (102 : Int) ≠ 103 by decide), eo 102 (by decide) (by omega)]
               refine ⟨rfl, fun j x y => ?_⟩
               rw [up_ne (show (103 : Int) ≠ 100 by decide), up_at (show 40 * q + j ≠ 40 * r + i by omega), eo 103 (by decide) (by omega)])
      · skip
        rw [hv1, hw9]
        clear hv1 hw9 v1 w9
        dsimp only [Option.toList, List.cons_append, List.nil_append, List.append_nil]
        refine wp_if_ne (pc' := 7) (pt := 9) rfl rfl rfl (fun q_169 => absurd q_169 (by decide)) (fun q_169 => ?_)
        refine wp_iconst (a := -1) (pc' := 8) rfl rfl rfl ?_
        refine wp_ret rfl rfl rfl ?_
        first
        | (exfalso; omega)
        | exact ⟨rfl, rfl, hI⟩
        | exact ⟨rfl, by rw [hw9, up_ne (by decide), up_ne (by decide)], by rw [hw9, hw1]; exact refW_inv hI (by decide)⟩
        | (obtain ⟨hir1, hir2, hir3⟩ := hir
           have hij := hir3 i (by omega) (by omega)
           refine ⟨rfl, by rw [up_ne (by decide), up_ne (by decide)], hI.rows hbr.1 hbr.2 (w' := up (up w1 103 (40 * r + i) v) 100 2 (w1 103 (40 * r + i))) ?_ ?_ ⟨?_, ?_, ?_⟩ ?_⟩
           · rw [hw1]
             exact (((((SameF.rf w _ _).put (Or.inr (by simp))).put (Or.inl (by simp))).put (Or.inl (by simp))).put (Or.inr (by simp)))
           · rw [up_eq, up_ne (by decide), up_ne (by decide), eo 103 (by decide) (by omega), hw1, up_ne (by omega), up_eq]
             exact hij.1
           · rw [up_ne (by omega), up_ne (by omega), up_ne (by decide), up_ne (by decide), eo 102 (by decide) (by omega), eo (53 + 2 * r) (by omega) (by omega)]
             exact hir1
           · rw [up_ne (by decide), up_ne (by decide), e102]
             exact hir2
           · intro j a b
             rw [up_ne (by decide), up_ne (by decide), e102] at b
             rw [up_ne (show (54 + 2 * r : Int) ≠ 100 by omega), up_ne (show (54 + 2 * r : Int) ≠ 103 by omega), up_ne (show (103 : Int) ≠ 100 by decide)]
             by_cases hj : j = i
             · rw [hj, up_eq, hw1, up_eq]
               exact ⟨rfl, hv⟩
             · rw [up_at (show 40 * r + j ≠ 40 * r + i by omega), eo 103 (by decide) (by omega), hw1, up_at hj, up_ne (by omega)]
               exact hir3 j a b
           · intro q a b hq
             rw [up_ne (show (102 : Int) ≠ 100 by decide), up_ne (show (102 : Int) ≠ 103 by decide), eo 102 (by decide) (by omega)]
             refine ⟨rfl, fun j x y => ?_⟩
             rw [up_ne (show (103 : Int) ≠ 100 by decide), up_at (show 40 * q + j ≠ 40 * r + i by omega), eo 103 (by decide) (by omega)])
  · skip
    rw [hv1, hw9]
    clear hv1 hw9 v1 w9
    dsimp only [Option.toList, List.cons_append, List.nil_append, List.append_nil]
    refine wp_if_eq (pc' := 7) (pt := 21) rfl rfl rfl (fun q_170 => ?_) (fun q_170 => absurd (by decide) q_170)
    refine wp_iconst (a := -1) (pc' := 22) rfl rfl rfl ?_
    refine wp_istore (pc' := 24) rfl rfl (Nat.le_of_ble_eq_true rfl) rfl ?_
    dsimp only [lset, lset2, List.set, List.getElem?_cons_zero, List.getElem?_cons_succ]
    refine wp_iload (pc' := 26) rfl rfl rfl ?_
    refine wp_if_eq (pc' := 29) (pt := 32) rfl rfl rfl (fun q_171 => absurd q_171 (by decide)) (fun q_171 => ?_)
    refine wp_iload (pc' := 31) rfl rfl rfl ?_
    refine wp_ret rfl rfl rfl ?_
    refine ⟨_, rfl, ?_, ?_⟩
    · first | exact e2 | rfl
    refine wp_iload_n (pc' := 1) rfl rfl rfl ?_
    refine wp_call (pc' := 4) rfl rfl rfl rfl rfl ⟨Nat.le_of_ble_eq_true rfl, Nat.le_of_ble_eq_true rfl, Nat.le_of_ble_eq_true rfl, Nat.le_of_ble_eq_true rfl, Nat.le_of_ble_eq_true rfl⟩ rfl (c_Mod_isRow) ?_
    rintro v1 w9 ⟨hw9, ⟨hv1, hb1⟩ | ⟨hv1, hb1⟩⟩
    · skip
      rw [hv1, hw9]
      clear hv1 hw9 v1 w9
      dsimp only [Option.toList, List.cons_append, List.nil_append, List.append_nil]
      refine wp_if_ne (pc' := 7) (pt := 9) rfl rfl rfl (fun q_222 => ?_) (fun q_222 => absurd (by decide) q_222)
      refine wp_aload_n (pc' := 10) rfl rfl rfl (by decide) ?_
      refine wp_getR (r' := 102) (ci := 10) (k0 := 5) (pc' := 13) rfl rfl (by decide) (by first | assumption | rfl) (hT.get 100 rfl) ?_
      refine wp_iload_n (pc' := 14) rfl rfl rfl ?_
      refine wp_iaload (pc' := 15) rfl rfl (by first | assumption | rfl) (by omega) ?_
      refine wp_if_ge (pc' := 18) (pt := 24) rfl rfl rfl (fun q_223 => ?_) (fun q_223 => ?_)
      · skip
        refine wp_iload_n (pc' := 25) rfl rfl rfl ?_
        refine wp_iconst (a := 0) (pc' := 26) rfl rfl rfl ?_
        refine wp_aload_n (pc' := 27) rfl rfl rfl (by decide) ?_
        refine wp_getR (r' := 102) (ci := 10) (k0 := 5) (pc' := 30) rfl rfl (by decide) (by first | assumption | rfl) (hT.get 100 rfl) ?_
        refine wp_iload_n (pc' := 31) rfl rfl rfl ?_
        refine wp_iaload (pc' := 32) rfl rfl (by first | assumption | rfl) (by omega) ?_
        refine wp_iconst (a := 1) (pc' := 33) rfl rfl rfl ?_
        refine wp_isub (pc' := 34) rfl rfl (by first | exact w32_id (by omega) (by omega) | rfl) ?_
        refine wp_call (pc' := 37) rfl rfl rfl rfl rfl ⟨Nat.le_of_ble_eq_true rfl, Nat.le_of_ble_eq_true rfl, Nat.le_of_ble_eq_true rfl, Nat.le_of_ble_eq_true rfl, Nat.le_of_ble_eq_true rfl⟩ rfl (c_Mod_in) ?_
        rintro v1 w9 ⟨hw9, ⟨hv1, hb1⟩ | ⟨hv1, hb1⟩⟩
        · skip
          rw [hv1, hw9]
          clear hv1 hw9 v1 w9
          dsimp only [Option.toList, List.cons_append, List.nil_append, List.append_nil]
          refine wp_if_ne (pc' := 40) (pt := 46) rfl rfl rfl (fun q_224 => ?_) (fun q_224 => absurd (by decide) q_224)
          skip
          refine wp_aload_n (pc' := 47) rfl rfl rfl (by decide) ?_
          refine wp_iload_n (pc' := 48) rfl rfl rfl ?_
          refine wp_iload_n (pc' := 49) rfl rfl rfl ?_
          refine wp_call (pc' := 52) rfl rfl rfl rfl rfl ⟨Nat.le_of_ble_eq_true rfl, Nat.le_of_ble_eq_true rfl, Nat.le_of_ble_eq_true rfl, Nat.le_of_ble_eq_true rfl, Nat.le_of_ble_eq_true rfl⟩ rfl (c_Mod_rowAt hT (by omega) (by omega)) ?_
          intro v1 w9 hq1
          rw [hq1.1, hq1.2]
          clear hq1 v1 w9
          dsimp only [Option.toList, List.cons_append, List.nil_append, List.append_nil]
          refine wp_istore (pc' := 54) rfl rfl (Nat.le_of_ble_eq_true rfl) rfl ?_
          dsimp only [lset, lset2, List.set, List.getElem?_cons_zero, List.getElem?_cons_succ]
          refine wp_aload_n (pc' := 55) rfl rfl rfl (by decide) ?_
          refine wp_getR (r' := 103) (ci := 10) (k0 := 6) (pc' := 58) rfl rfl (by decide) (by first | assumption | rfl) (hT.get 101 rfl) ?_
          refine wp_bipush (a := 40) (pc' := 60) rfl rfl rfl ?_
          refine wp_iload_n (pc' := 61) rfl rfl rfl ?_
          refine wp_imul (pc' := 62) rfl rfl (by first | exact w32_id (by omega) (by omega) | rfl) ?_
          refine wp_iload_n (pc' := 63) rfl rfl rfl ?_
          refine wp_iadd (pc' := 64) rfl rfl (by first | exact w32_id (by omega) (by omega) | rfl) ?_
          refine wp_iload_n (pc' := 65) rfl rfl rfl ?_
          refine wp_iastore (pc' := 66) rfl rfl (by first | assumption | rfl) (by omega) ?_
          refine wp_aload_n (pc' := 67) rfl rfl rfl (by decide) ?_
          refine wp_iload (pc' := 69) rfl rfl rfl ?_
          refine wp_iconst (a := 1) (pc' := 70) rfl rfl rfl ?_
          refine wp_call (pc' := 73) rfl rfl rfl rfl rfl ⟨Nat.le_of_ble_eq_true rfl, Nat.le_of_ble_eq_true rfl, Nat.le_of_ble_eq_true rfl, Nat.le_of_ble_eq_true rfl, Nat.le_of_ble_eq_true rfl⟩ rfl (c_Mod_tells) ?_
          intro v1 w9 hq1
          rw [hq1.1, hq1.2]
          clear hq1 v1 w9
          dsimp only [Option.toList, List.cons_append, List.nil_append, List.append_nil]
          refine wp_ret rfl rfl rfl ?_
          first
          | (exfalso; omega)
          | exact ⟨rfl, rfl, hI⟩
          | exact ⟨rfl, by rw [hw9, up_ne (by decide), up_ne (by decide)], by rw [hw9, hw1]; exact refW_inv hI (by decide)⟩
          | (obtain ⟨hir1, hir2, hir3⟩ := hir
             have hij := hir3 i (by omega) (by omega)
             refine ⟨rfl, by rw [up_ne (by decide), up_ne (by decide)], hI.rows hbr.1 hbr.2 (w' := up (up w1 103 (40 * r + i) v) 100 2 (w1 103 (40 * r + i))) ?_ ?_ ⟨?_, ?_, ?_⟩ ?_⟩
             · rw [hw1]
               exact (((((SameF.rf w _ _).put (Or.inr (by simp))).put (Or.inl (by simp))).put (Or.inl (by simp))).put (Or.inr (by simp)))
             · rw [up_eq, up_ne (by decide), up_ne (by decide), eo 103 (by decide) (by omega), hw1, up_ne (by omega), up_eq]
               exact hij.1
             · rw [up_ne (by omega), up_ne (by omega), up_ne (by decide), up_ne (by decide), eo 102 (by decide) (by omega), eo (53 + 2 * r) (by omega) (by omega)]
               exact hir1
             · rw [up_ne (by decide), up_ne (by decide), e102]
               exact hir2
             · intro j a b
               rw [up_ne (by decide), up_ne (by decide), e102] at b
               rw [up_ne (show (54 + 2 * r : Int) ≠ 100 by omega), up_ne (show (54 + 2 * r : Int) ≠ 103 by omega), up_ne (show (103 : Int) ≠ 100 by decide)]
               by_cases hj : j = i
               · rw [hj, up_eq, hw1, up_eq]
                 exact ⟨rfl, hv⟩
               · rw [up_at (show 40 * r + j ≠ 40 * r + i by omega), eo 103 (by decide) (by omega), hw1, up_at hj, up_ne (by omega)]
                 exact hir3 j a b
             · intro q a b hq
               rw [up_ne (show (102 : Int) ≠ 100 by decide), up_ne (show (102 : Int) ≠ 103 by decide), eo 102 (by decide) (by omega)]
               refine ⟨rfl, fun j x y => ?_⟩
               rw [up_ne (show (103 : Int) ≠ 100 by decide), up_at (show 40 * q + j ≠ 40 * r + i by omega), eo 103 (by decide) (by omega)])
        · skip
          rw [hv1, hw9]
          clear hv1 hw9 v1 w9
          dsimp only [Option.toList, List.cons_append, List.nil_append, List.append_nil]
          refine wp_if_ne (pc' := 40) (pt := 46) rfl rfl rfl (fun q_225 => absurd q_225 (by decide)) (fun q_225 => ?_)
          refine wp_aload_n (pc' := 41) rfl rfl rfl (by decide) ?_
          refine wp_iconst (a := 2) (pc' := 42) rfl rfl rfl ?_
          refine wp_call (pc' := 45) rfl rfl rfl rfl rfl ⟨Nat.le_of_ble_eq_true rfl, Nat.le_of_ble_eq_true rfl, Nat.le_of_ble_eq_true rfl, Nat.le_of_ble_eq_true rfl, Nat.le_of_ble_eq_true rfl⟩ rfl (c_Mod_meets hT (by decide)) ?_
          rintro v1 w9 ⟨hv1, hw9⟩
          rw [hv1]
          clear hv1 v1
          dsimp only [Option.toList, List.cons_append, List.nil_append, List.append_nil]
          refine wp_ret rfl rfl rfl ?_
          first
          | (exfalso; omega)
          | exact ⟨rfl, rfl, hI⟩
          | exact ⟨rfl, by rw [hw9, up_ne (by decide), up_ne (by decide)], by rw [hw9, hw1]; exact refW_inv hI (by decide)⟩
          | (obtain ⟨hir1, hir2, hir3⟩ := hir
             have hij := hir3 i (by omega) (by omega)
             refine ⟨rfl, by rw [up_ne (by decide), up_ne (by decide)], hI.rows hbr.1 hbr.2 (w' := up (up w1 103 (40 * r + i) v) 100 2 (w1 103 (40 * r + i))) ?_ ?_ ⟨?_, ?_, ?_⟩ ?_⟩
             · rw [hw1]
               exact (((((SameF.rf w _ _).put (Or.inr (by simp))).put (Or.inl (by simp))).put (Or.inl (by simp))).put (Or.inr (by simp)))
             · rw [up_eq, up_ne (by decide), up_ne (by decide), eo 103 (by decide) (by omega), hw1, up_ne (by omega), up_eq]
               exact hij.1
             · rw [up_ne (by omega), up_ne (by omega), up_ne (by decide), up_ne (by decide), eo 102 (by decide) (by omega), eo (53 + 2 * r) (by omega) (by omega)]
               exact hir1
             · rw [up_ne (by decide), up_ne (by decide), e102]
               exact hir2
             · intro j a b
               rw [up_ne (by decide), up_ne (by decide), e102] at b
               rw [up_ne (show (54 + 2 * r : Int) ≠ 100 by omega), up_ne (show (54 + 2 * r : Int) ≠ 103 by omega), up_ne (show (103 : Int) ≠ 100 by decide)]
               by_cases hj : j = i
               · rw [hj, up_eq, hw1, up_eq]
                 exact ⟨rfl, hv⟩
               · rw [up_at (show 40 * r + j ≠ 40 * r + i by omega), eo 103 (by decide) (by omega), hw1, up_at hj, up_ne (by omega)]
                 exact hir3 j a b
             · intro q a b hq
               rw [up_ne (show (102 : Int) ≠ 100 by decide), up_ne (show (102 : Int) ≠ 103 by decide), eo 102 (by decide) (by omega)]
               refine ⟨rfl, fun j x y => ?_⟩
               rw [up_ne (show (103 : Int) ≠ 100 by decide), up_at (show 40 * q + j ≠ 40 * r + i by omega), eo 103 (by decide) (by omega)])
      · skip
        refine wp_aload_n (pc' := 19) rfl rfl rfl (by decide) ?_
        refine wp_iconst (a := 1) (pc' := 20) rfl rfl rfl ?_
        refine wp_call (pc' := 23) rfl rfl rfl rfl rfl ⟨Nat.le_of_ble_eq_true rfl, Nat.le_of_ble_eq_true rfl, Nat.le_of_ble_eq_true rfl, Nat.le_of_ble_eq_true rfl, Nat.le_of_ble_eq_true rfl⟩ rfl (c_Mod_meets hT (by decide)) ?_
        rintro v1 w9 ⟨hv1, hw9⟩
        rw [hv1]
        clear hv1 v1
        dsimp only [Option.toList, List.cons_append, List.nil_append, List.append_nil]
        refine wp_ret rfl rfl rfl ?_
        first
        | (exfalso; omega)
        | exact ⟨rfl, rfl, hI⟩
        | exact ⟨rfl, by rw [hw9, up_ne (by decide), up_ne (by decide)], by rw [hw9, hw1]; exact refW_inv hI (by decide)⟩
        | (obtain ⟨hir1, hir2, hir3⟩ := hir
           have hij := hir3 i (by omega) (by omega)
           refine ⟨rfl, by rw [up_ne (by decide), up_ne (by decide)], hI.rows hbr.1 hbr.2 (w' := up (up w1 103 (40 * r + i) v) 100 2 (w1 103 (40 * r + i))) ?_ ?_ ⟨?_, ?_, ?_⟩ ?_⟩
           · rw [hw1]
             exact (((((SameF.rf w _ _).put (Or.inr (by simp))).put (Or.inl (by simp))).put (Or.inl (by simp))).put (Or.inr (by simp)))
           · rw [up_eq, up_ne (by decide), up_ne (by decide), eo 103 (by decide) (by omega), hw1, up_ne (by omega), up_eq]
             exact hij.1
           · rw [up_ne (by omega), up_ne (by omega), up_ne (by decide), up_ne (by decide), eo 102 (by decide) (by omega), eo (53 + 2 * r) (by omega) (by omega)]
             exact hir1
           · rw [up_ne (by decide), up_ne (by decide), e102]
             exact hir2
           · intro j a b
             rw [up_ne (by decide), up_ne (by decide), e102] at b
             rw [up_ne (show (54 + 2 * r : Int) ≠ 100 by omega), up_ne (show (54 + 2 * r : Int) ≠ 103 by omega), up_ne (show (103 : Int) ≠ 100 by decide)]
             by_cases hj : j = i
             · rw [hj, up_eq, hw1, up_eq]
               exact ⟨rfl, hv⟩
             · rw [up_at (show 40 * r + j ≠ 40 * r + i by omega), eo 103 (by decide) (by omega), hw1, up_at hj, up_ne (by omega)]
               exact hir3 j a b
           · intro q a b hq
             rw [up_ne (show (102 : Int) ≠ 100 by decide), up_ne (show (102 : Int) ≠ 103 by decide), eo 102 (by decide) (by omega)]
             refine ⟨rfl, fun j x y => ?_⟩
             rw [up_ne (show (103 : Int) ≠ 100 by decide), up_at (show 40 * q + j ≠ 40 * r + i by omega), eo 103 (by decide) (by omega)])
    · skip
      rw [hv1, hw9]
      clear hv1 hw9 v1 w9
      dsimp only [Option.toList, List.cons_append, List.nil_append, List.append_nil]
      refine wp_if_ne (pc' := 7) (pt := 9) rfl rfl rfl (fun q_226 => absurd q_226 (by decide)) (fun q_226 => ?_)
      refine wp_iconst (a := -1) (pc' := 8) rfl rfl rfl ?_
      refine wp_ret rfl rfl rfl ?_
      first
      | (exfalso; omega)
      | exact ⟨rfl, rfl, hI⟩
      | exact ⟨rfl, by rw [hw9, up_ne (by decide), up_ne (by decide)], by rw [hw9, hw1]; exact refW_inv hI (by decide)⟩
      | (obtain ⟨hir1, hir2, hir3⟩ := hir
         have hij := hir3 i (by omega) (by omega)
         refine ⟨rfl, by rw [up_ne (by decide), up_ne (by decide)], hI.rows hbr.1 hbr.2 (w' := up (up w1 103 (40 * r + i) v) 100 2 (w1 103 (40 * r + i))) ?_ ?_ ⟨?_, ?_, ?_⟩ ?_⟩
         · rw [hw1]
           exact (((((SameF.rf w _ _).put (Or.inr (by simp))).put (Or.inl (by simp))).put (Or.inl (by simp))).put (Or.inr (by simp)))
         · rw [up_eq, up_ne (by decide), up_ne (by decide), eo 103 (by decide) (by omega), hw1, up_ne (by omega), up_eq]
           exact hij.1
         · rw [up_ne (by omega), up_ne (by omega), up_ne (by decide), up_ne (by decide), eo 102 (by decide) (by omega), eo (53 + 2 * r) (by omega) (by omega)]
           exact hir1
         · rw [up_ne (by decide), up_ne (by decide), e102]
           exact hir2
         · intro j a b
           rw [up_ne (by decide), up_ne (by decide), e102] at b
           rw [up_ne (show (54 + 2 * r : Int) ≠ 100 by omega), up_ne (show (54 + 2 * r : Int) ≠ 103 by omega), up_ne (show (103 : Int) ≠ 100 by decide)]
           by_cases hj : j = i
           · rw [hj, up_eq, hw1, up_eq]
             exact ⟨rfl, hv⟩
           · rw [up_at (show 40 * r + j ≠ 40 * r + i by omega), eo 103 (by decide) (by omega), hw1, up_at hj, up_ne (by omega)]
             exact hir3 j a b
         · intro q a b hq
           rw [up_ne (show (102 : Int) ≠ 100 by decide), up_ne (show (102 : Int) ≠ 103 by decide), eo 102 (by decide) (by omega)]
           refine ⟨rfl, fun j x y => ?_⟩
           rw [up_ne (show (103 : Int) ≠ 100 by decide), up_at (show 40 * q + j ≠ 40 * r + i by omega), eo 103 (by decide) (by omega)])
