/-! mean -/
theorem sum_in {f : Int → Int} {n : Int} (h0 : 0 ≤ n) (h1 : n ≤ 40) (h : ∀ j : Int, 0 ≤ j → j < n → I32 (f j)) : -100000000000 ≤ sumI f n ∧ sumI f n ≤ 100000000000 := by
  have h2 := sumI_bd (f := f) (lo := -2147483648) (hi := 2147483648) h0 (fun j a b => by
    have := h j a b
    unfold I32 at this
    omega)
  omega
set_option maxRecDepth 20000 in
set_option maxHeartbeats 4000000 in
theorem l_mean {w : Hp} {d : Nat} {r : Int} {Q : Option PV → Hp → Prop} (hT : Stc w) (hr : 0 ≤ r ∧ r < 6) (hz : w (53 + 2 * r) 1 ≤ 40) (hv : ∀ j : Int, 0 ≤ j → j < w (53 + 2 * r) 1 → I32 (w (54 + 2 * r) j)) (hst : StripAt w (53 + 2 * r) (54 + 2 * r) 40 ∧ w 1 r = 53 + 2 * r) (K : WP SH d 85 73 [some (vR 0), some (vI r), some (vR (53 + 2 * r)), some (vL (sumI (w (54 + 2 * r)) (w (53 + 2 * r) 1))), none, some (vI (w (53 + 2 * r) 1))] [] w Q) : ∀ (k : Nat) (i s : Int), 0 ≤ i → i + k = w (53 + 2 * r) 1 → s = sumI (w (54 + 2 * r)) i → WP SH d 85 47 [some (vR 0), some (vI r), some (vR (53 + 2 * r)), some (vL s), none, some (vI i)] [] w Q := by
  intro k
  induction k with
  | zero =>
    intro i s hi0 hik hs
    have hs7 := hst.1.1
    have hs1 := hst.1.2.1
    have hsi := sum_in hi0 (by omega) (fun j a b => hv j a (by omega))
    have hvi : i < w (53 + 2 * r) 1 → I32 (w (54 + 2 * r) i) := fun z => hv i hi0 z
    unfold I32 at hvi
    refine wp_iload (pc' := 49) rfl rfl rfl ?_
    refine wp_aload_n (pc' := 50) rfl rfl rfl (by omega) ?_
    refine wp_getI (ci := 7) (k0 := 1) (pc' := 53) rfl rfl (by decide) (by first | assumption | rfl) ?_
    refine wp_icmp_ge (pc' := 56) (pt := 73) rfl rfl rfl (fun q_1 => ?_) (fun q_1 => ?_)
    · skip
      obtain rfl : i = w (53 + 2 * r) 1 := by omega
      rw [hs]
      exact K
    · skip
      exfalso; omega
  | succ k ih =>
    intro i s hi0 hik hs
    have hs7 := hst.1.1
    have hs1 := hst.1.2.1
    have hsi := sum_in hi0 (by omega) (fun j a b => hv j a (by omega))
    have hvi : i < w (53 + 2 * r) 1 → I32 (w (54 + 2 * r) i) := fun z => hv i hi0 z
    unfold I32 at hvi
    refine wp_iload (pc' := 49) rfl rfl rfl ?_
    refine wp_aload_n (pc' := 50) rfl rfl rfl (by omega) ?_
    refine wp_getI (ci := 7) (k0 := 1) (pc' := 53) rfl rfl (by decide) (by first | assumption | rfl) ?_
    refine wp_icmp_ge (pc' := 56) (pt := 73) rfl rfl rfl (fun q_1 => ?_) (fun q_1 => ?_)
    · skip
      exfalso; omega
    · skip
      have hvj := hvi (by omega)
      refine wp_lload_n (pc' := 57) rfl rfl rfl ?_
      refine wp_aload_n (pc' := 58) rfl rfl rfl (by omega) ?_
      refine wp_getR (r' := (54 + 2 * r)) (ci := 7) (k0 := 0) (pc' := 61) rfl rfl (by decide) (by first | assumption | rfl) (by first | exact hst.1.2.2.1 | (rw [up_ne (by omega)]; exact hst.1.2.2.1)) ?_
      refine wp_iload (pc' := 63) rfl rfl rfl ?_
      refine wp_iaload (pc' := 64) rfl rfl (by first | assumption | rfl) (by omega) ?_
      refine wp_i2l (pc' := 65) rfl rfl ?_
      refine wp_ladd (pc' := 66) rfl rfl (by first | exact w64_id (by omega) (by omega) | rfl) ?_
      refine wp_lstore_n (pc' := 67) rfl rfl (Nat.le_of_ble_eq_true rfl) rfl ?_
      dsimp only [lset, lset2, List.set, List.getElem?_cons_zero, List.getElem?_cons_succ]
      refine wp_iinc (pc' := 70) rfl rfl rfl (inc_id (by omega) (by omega)) rfl ?_
      dsimp only [lset, lset2, List.set, List.getElem?_cons_zero, List.getElem?_cons_succ]
      refine wp_goto (pc' := 47) rfl rfl ?_
      exact ih _ _ (by omega) (by omega) (by rw [sumI_s _ hi0, hs])
set_option maxRecDepth 20000 in
set_option maxHeartbeats 4000000 in
theorem l_Mmean {w : Hp} {d : Nat} {r : Int} {Q : Option PV → Hp → Prop} (hT : Stc w) (hr : 0 ≤ r ∧ r < 6) (hz : w 102 r ≤ 40) (hv : ∀ j : Int, 0 ≤ j → j < w 102 r → I32 (w 103 (40 * r + j))) (K : WP SH (d + 1) 155 72 [some (vR 100), some (vI r), some (vL (sumI (fun j => w 103 (40 * r + j)) (w 102 r))), none, some (vI (w 102 r))] [] w Q) : ∀ (k : Nat) (i s : Int), 0 ≤ i → i + k = w 102 r → s = sumI (fun j => w 103 (40 * r + j)) i → WP SH (d + 1) 155 44 [some (vR 100), some (vI r), some (vL s), none, some (vI i)] [] w Q := by
  intro k
  induction k with
  | zero =>
    intro i s hi0 hik hs
    have hsi := sum_in hi0 (by omega) (fun j a b => hv j a (by omega))
    have hvi : i < w 102 r → I32 (w 103 (40 * r + i)) := fun z => hv i hi0 z
    unfold I32 at hvi
    refine wp_iload (pc' := 46) rfl rfl rfl ?_
    refine wp_aload_n (pc' := 47) rfl rfl rfl (by decide) ?_
    refine wp_getR (r' := 102) (ci := 10) (k0 := 5) (pc' := 50) rfl rfl (by decide) (by first | assumption | rfl) (hT.get 100 rfl) ?_
    refine wp_iload_n (pc' := 51) rfl rfl rfl ?_
    refine wp_iaload (pc' := 52) rfl rfl (by first | assumption | rfl) (by omega) ?_
    refine wp_icmp_ge (pc' := 55) (pt := 72) rfl rfl rfl (fun q_1 => ?_) (fun q_1 => ?_)
    · skip
      obtain rfl : i = w 102 r := by omega
      rw [hs]
      exact K
    · skip
      exfalso; omega
  | succ k ih =>
    intro i s hi0 hik hs
    have hsi := sum_in hi0 (by omega) (fun j a b => hv j a (by omega))
    have hvi : i < w 102 r → I32 (w 103 (40 * r + i)) := fun z => hv i hi0 z
    unfold I32 at hvi
    refine wp_iload (pc' := 46) rfl rfl rfl ?_
    refine wp_aload_n (pc' := 47) rfl rfl rfl (by decide) ?_
    refine wp_getR (r' := 102) (ci := 10) (k0 := 5) (pc' := 50) rfl rfl (by decide) (by first | assumption | rfl) (hT.get 100 rfl) ?_
    refine wp_iload_n (pc' := 51) rfl rfl rfl ?_
    refine wp_iaload (pc' := 52) rfl rfl (by first | assumption | rfl) (by omega) ?_
    refine wp_icmp_ge (pc' := 55) (pt := 72) rfl rfl rfl (fun q_1 => ?_) (fun q_1 => ?_)
    · skip
      exfalso; omega
    · skip
      have hvj := hvi (by omega)
      refine wp_lload_n (pc' := 56) rfl rfl rfl ?_
      refine wp_aload_n (pc' := 57) rfl rfl rfl (by decide) ?_
      refine wp_iload_n (pc' := 58) rfl rfl rfl ?_
      refine wp_iload (pc' := 60) rfl rfl rfl ?_
      refine wp_call (pc' := 63) rfl rfl rfl rfl rfl ⟨Nat.le_of_ble_eq_true rfl, Nat.le_of_ble_eq_true rfl, Nat.le_of_ble_eq_true rfl, Nat.le_of_ble_eq_true rfl, Nat.le_of_ble_eq_true rfl⟩ rfl (c_Mod_rowAt hT (by omega) (by omega)) ?_
      intro v1 w9 hq1
      rw [hq1.1, hq1.2]
      clear hq1 v1 w9
      dsimp only [Option.toList, List.cons_append, List.nil_append, List.append_nil]
      refine wp_i2l (pc' := 64) rfl rfl ?_
      refine wp_ladd (pc' := 65) rfl rfl (by first | exact w64_id (by omega) (by omega) | rfl) ?_
      refine wp_lstore_n (pc' := 66) rfl rfl (Nat.le_of_ble_eq_true rfl) rfl ?_
      dsimp only [lset, lset2, List.set, List.getElem?_cons_zero, List.getElem?_cons_succ]
      refine wp_iinc (pc' := 69) rfl rfl rfl (inc_id (by omega) (by omega)) rfl ?_
      dsimp only [lset, lset2, List.set, List.getElem?_cons_zero, List.getElem?_cons_succ]
      refine wp_goto (pc' := 44) rfl rfl ?_
      exact ih _ _ (by omega) (by omega) (by rw [sumI_s _ hi0, hs])
set_option maxRecDepth 20000 in
set_option maxHeartbeats 4000000 in
theorem p_mean {w : Hp} {d : Nat} {r : Int} (hI : Inv w) : WP SH (d + 9) 85 0 [some (vR 0), some (vI r), none, none, none, none] [] w (fun v0 w1 => ∃ a, v0 = some (vI a) ∧ w1 (-2) = w (-2) ∧ WP SH (d + 9) 155 0 [some (vR 100), some (vI r), none, none, none] [] w1 (fun v2 w2 => v2 = some (vI a) ∧ w2 (-2) = w1 (-2) ∧ Inv w2)) := by
  obtain ⟨hT, hRO, hIF, hITo, hIR, hIT, hIL, hIK⟩ := id hI
  refine wp_iload_n (pc' := 1) rfl rfl rfl ?_
  refine wp_call (pc' := 4) rfl rfl rfl rfl rfl ⟨Nat.le_of_ble_eq_true rfl, Nat.le_of_ble_eq_true rfl, Nat.le_of_ble_eq_true rfl, Nat.le_of_ble_eq_true rfl, Nat.le_of_ble_eq_true rfl⟩ rfl (c_VH_isRow) ?_
  rintro v1 w9 ⟨hw9, ⟨hv1, hb1⟩ | ⟨hv1, hb1⟩⟩
  · skip
    rw [hv1, hw9]
    clear hv1 hw9 v1 w9
    have hst := strip_row hT hb1.1 hb1.2
    have hs7 := hst.1.1
    have hs1 := hst.1.2.1
    have hir := hIR r hb1.1 hb1.2
    have hbr := hb1
    dsimp only [Option.toList, List.cons_append, List.nil_append, List.append_nil]
    refine wp_if_ne (pc' := 7) (pt := 9) rfl rfl rfl (fun q_1 => ?_) (fun q_1 => absurd (by decide) q_1)
    refine wp_aload_n (pc' := 10) rfl rfl rfl (by decide) ?_
    refine wp_getR (r' := 1) (ci := 9) (k0 := 0) (pc' := 13) rfl rfl (by decide) (by first | assumption | rfl) (hT.get 0 rfl) ?_
    refine wp_iload_n (pc' := 14) rfl rfl rfl ?_
    refine wp_aaload (r' := (53 + 2 * r)) (pc' := 15) rfl rfl (by first | assumption | rfl) rfl (by omega) (by first | exact hst.2 | (rw [up_ne (by decide)]; exact hst.2)) ?_
    refine wp_astore_n (pc' := 16) rfl rfl (by omega) (Nat.le_of_ble_eq_true rfl) rfl ?_
    dsimp only [lset, lset2, List.set, List.getElem?_cons_zero, List.getElem?_cons_succ]
    refine wp_aload_n (pc' := 17) rfl rfl rfl (by omega) ?_
    refine wp_call (pc' := 20) rfl rfl rfl rfl rfl ⟨Nat.le_of_ble_eq_true rfl, Nat.le_of_ble_eq_true rfl, Nat.le_of_ble_eq_true rfl, Nat.le_of_ble_eq_true rfl, Nat.le_of_ble_eq_true rfl⟩ (recv_strip hs7 (by decide)) (c_Strip_isMissing (w := w) hst.1) ?_
    rintro v1 w9 ⟨hw9, ⟨hv1, hb1⟩ | ⟨hv1, hb1⟩⟩
    · skip
      rw [hv1, hw9]
      clear hv1 hw9 v1 w9
      dsimp only [Option.toList, List.cons_append, List.nil_append, List.append_nil]
      refine wp_if_eq (pc' := 23) (pt := 29) rfl rfl rfl (fun q_2 => absurd q_2 (by decide)) (fun q_2 => ?_)
      refine wp_aload_n (pc' := 24) rfl rfl rfl (by decide) ?_
      refine wp_iconst (a := 1) (pc' := 25) rfl rfl rfl ?_
      refine wp_call (pc' := 28) rfl rfl rfl rfl rfl ⟨Nat.le_of_ble_eq_true rfl, Nat.le_of_ble_eq_true rfl, Nat.le_of_ble_eq_true rfl, Nat.le_of_ble_eq_true rfl, Nat.le_of_ble_eq_true rfl⟩ rfl (c_VH_refuse hT (by decide)) ?_
      intro v1 w1 hq1
      obtain ⟨hv1, hw1⟩ := hq1
      rw [hv1]
      clear hv1 v1
      change w1 = refW w _ at hw1
      have hT := (by rw [hw1]; exact refW_stc hT : Stc w1)
      have e2 : w1 (-2) = w (-2) := by rw [hw1]; exact refW_ne (by decide) (by decide)
      have e102 : w1 102 r = w 102 r := by rw [hw1, refW_ne (by decide) (by decide)]
      dsimp only [Option.toList, List.cons_append, List.nil_append, List.append_nil]
      refine wp_ret rfl rfl rfl ?_
      refine ⟨_, rfl, ?_, ?_⟩
      · first | exact e2 | rfl
      refine wp_iload_n (pc' := 1) rfl rfl rfl ?_
      refine wp_call (pc' := 4) rfl rfl rfl rfl rfl ⟨Nat.le_of_ble_eq_true rfl, Nat.le_of_ble_eq_true rfl, Nat.le_of_ble_eq_true rfl, Nat.le_of_ble_eq_true rfl, Nat.le_of_ble_eq_true rfl⟩ rfl (c_Mod_isRow) ?_
      rintro v1 w9 ⟨hw9, ⟨hv1, hb1⟩ | ⟨hv1, hb1⟩⟩
      · skip
        rw [hv1, hw9]
        clear hv1 hw9 v1 w9
        dsimp only [Option.toList, List.cons_append, List.nil_append, List.append_nil]
        refine wp_if_ne (pc' := 7) (pt := 9) rfl rfl rfl (fun q_53 => ?_) (fun q_53 => absurd (by decide) q_53)
        refine wp_aload_n (pc' := 10) rfl rfl rfl (by decide) ?_
        refine wp_getR (r' := 102) (ci := 10) (k0 := 5) (pc' := 13) rfl rfl (by decide) (by first | assumption | rfl) (hT.get 100 rfl) ?_
        refine wp_iload_n (pc' := 14) rfl rfl rfl ?_
        refine wp_iaload (pc' := 15) rfl rfl (by first | assumption | rfl) (by omega) ?_
        refine wp_if_ge (pc' := 18) (pt := 24) rfl rfl rfl (fun q_54 => ?_) (fun q_54 => ?_)
        · skip
          refine wp_aload_n (pc' := 25) rfl rfl rfl (by decide) ?_
          refine wp_getR (r' := 102) (ci := 10) (k0 := 5) (pc' := 28) rfl rfl (by decide) (by first | assumption | rfl) (hT.get 100 rfl) ?_
          refine wp_iload_n (pc' := 29) rfl rfl rfl ?_
          refine wp_iaload (pc' := 30) rfl rfl (by first | assumption | rfl) (by omega) ?_
          refine wp_if_ne (pc' := 33) (pt := 39) rfl rfl rfl (fun q_55 => ?_) (fun q_55 => ?_)
          · skip
            exfalso; omega
          · skip
            refine wp_aload_n (pc' := 34) rfl rfl rfl (by decide) ?_
            refine wp_iconst (a := 4) (pc' := 35) rfl rfl rfl ?_
            refine wp_call (pc' := 38) rfl rfl rfl rfl rfl ⟨Nat.le_of_ble_eq_true rfl, Nat.le_of_ble_eq_true rfl, Nat.le_of_ble_eq_true rfl, Nat.le_of_ble_eq_true rfl, Nat.le_of_ble_eq_true rfl⟩ rfl (c_Mod_meets hT (by decide)) ?_
            rintro v1 w9 ⟨hv1, hw9⟩
            rw [hv1]
            clear hv1 v1
            dsimp only [Option.toList, List.cons_append, List.nil_append, List.append_nil]
            refine wp_ret rfl rfl rfl ?_
            first
            | (exfalso; omega)
            | exact ⟨rfl, rfl, hI⟩
            | exact ⟨rfl, by rw [hw9, up_ne (by decide), up_ne (by decide)], by rw [hw9, hw1]; exact refW_inv hI (by decide)⟩
            | (refine ⟨rfl, by rw [hw6, up_ne (by decide)], hI.query (w' := w6) ?_ ?_⟩
               · rw [hw6, hw1]
                 exact ((SameF.rf w _ _).put (Or.inr (by decide))).put (Or.inr (by decide))
               · rw [hw6, up_eq, up_ne (by decide)]
                 rw [hw1, up_eq, ← hw1, eo 102 (by decide), eo 103 (by decide), hir.1]
                 rw [sumI_congr (f := w (54 + 2 * r)) (g := fun j => w 103 (40 * r + j)) (fun j a b => (hir.2.2 j a (by omega)).1)])
        · skip
          refine wp_aload_n (pc' := 19) rfl rfl rfl (by decide) ?_
          refine wp_iconst (a := 1) (pc' := 20) rfl rfl rfl ?_
          refine wp_call (pc' := 23) rfl rfl rfl rfl rfl ⟨Nat.le_of_ble_eq_true rfl, Nat.le_of_ble_eq_true rfl, Nat.le_of_ble_eq_true rfl, Nat.le_of_ble_eq_true rfl, Nat.le_of_ble_eq_true rfl⟩ rfl (c_Mod_meets hT (by decide)) ?_
          rintro v1 w9 ⟨hv1, hw9⟩
          rw [hv1]
          clear hv1 v1
          dsimp only [Option.toList, List.cons_append, List.nil_append, List.append_nil]
          refine wp_ret rfl rfl rfl ?_
          first
          | (exfalso; omega)
          | exact ⟨rfl, rfl, hI⟩
          | exact ⟨rfl, by rw [hw9, up_ne (by decide), up_ne (by decide)], by rw [hw9, hw1]; exact refW_inv hI (by decide)⟩
          | (refine ⟨rfl, by rw [hw6, up_ne (by decide)], hI.query (w' := w6) ?_ ?_⟩
             · rw [hw6, hw1]
               exact ((SameF.rf w _ _).put (Or.inr (by decide))).put (Or.inr (by decide))
             · rw [hw6, up_eq, up_ne (by decide)]
               rw [hw1, up_eq, ← hw1, eo 102 (by decide), eo 103 (by decide), hir.1]
               rw [sumI_congr (f := w (54 + 2 * r)) (g := fun j => w 103 (40 * r + j)) (fun j a b => (hir.2.2 j a (by omega)).1)])
      · skip
        rw [hv1, hw9]
        clear hv1 hw9 v1 w9
        dsimp only [Option.toList, List.cons_append, List.nil_append, List.append_nil]
        refine wp_if_ne (pc' := 7) (pt := 9) rfl rfl rfl (fun q_56 => absurd q_56 (by decide)) (fun q_56 => ?_)
        refine wp_iconst (a := -1) (pc' := 8) rfl rfl rfl ?_
        refine wp_ret rfl rfl rfl ?_
        first
        | (exfalso; omega)
        | exact ⟨rfl, rfl, hI⟩
        | exact ⟨rfl, by rw [hw9, up_ne (by decide), up_ne (by decide)], by rw [hw9, hw1]; exact refW_inv hI (by decide)⟩
        | (refine ⟨rfl, by rw [hw6, up_ne (by decide)], hI.query (w' := w6) ?_ ?_⟩
           · rw [hw6, hw1]
             exact ((SameF.rf w _ _).put (Or.inr (by decide))).put (Or.inr (by decide))
           · rw [hw6, up_eq, up_ne (by decide)]
             rw [hw1, up_eq, ← hw1, eo 102 (by decide), eo 103 (by decide), hir.1]
             rw [sumI_congr (f := w (54 + 2 * r)) (g := fun j => w 103 (40 * r + j)) (fun j a b => (hir.2.2 j a (by omega)).1)])
    · skip
      rw [hv1, hw9]
      clear hv1 hw9 v1 w9
      dsimp only [Option.toList, List.cons_append, List.nil_append, List.append_nil]
      refine wp_if_eq (pc' := 23) (pt := 29) rfl rfl rfl (fun q_57 => ?_) (fun q_57 => absurd (by decide) q_57)
      refine wp_aload_n (pc' := 30) rfl rfl rfl (by omega) ?_
      refine wp_getI (ci := 7) (k0 := 1) (pc' := 33) rfl rfl (by decide) (by first | assumption | rfl) ?_
      refine wp_if_ne (pc' := 36) (pt := 42) rfl rfl rfl (fun q_58 => ?_) (fun q_58 => ?_)
      · skip
        refine wp_lconst (a := 0) (pc' := 43) rfl rfl rfl ?_
        refine wp_lstore_n (pc' := 44) rfl rfl (Nat.le_of_ble_eq_true rfl) rfl ?_
        dsimp only [lset, lset2, List.set, List.getElem?_cons_zero, List.getElem?_cons_succ]
        refine wp_iconst (a := 0) (pc' := 45) rfl rfl rfl ?_
        refine wp_istore (pc' := 47) rfl rfl (Nat.le_of_ble_eq_true rfl) rfl ?_
        dsimp only [lset, lset2, List.set, List.getElem?_cons_zero, List.getElem?_cons_succ]
        refine l_mean hT hbr (by omega) (fun j a b => by rw [(hir.2.2 j a (by omega)).1]; exact (hir.2.2 j a (by omega)).2) hst ?_ (w (53 + 2 * r) 1).toNat 0 0 (by omega) (by omega) rfl
        refine wp_aload_n (pc' := 74) rfl rfl rfl (by decide) ?_
        refine wp_lload_n (pc' := 75) rfl rfl rfl ?_
        refine wp_aload_n (pc' := 76) rfl rfl rfl (by omega) ?_
        refine wp_getI (ci := 7) (k0 := 1) (pc' := 79) rfl rfl (by decide) (by first | assumption | rfl) ?_
        refine wp_i2l (pc' := 80) rfl rfl ?_
        refine wp_ldiv (pc' := 81) rfl rfl (by omega) (by first | exact lDiv_pos (by omega) (by omega) (by omega) | rfl) ?_
        refine wp_l2i (pc' := 82) rfl rfl (by first | exact w32_id (by omega) (by omega) | rfl) ?_
        refine wp_putI (ci := 9) (k0 := 14) (pc' := 85) rfl rfl (by decide) (by first | assumption | rfl) ?_
        refine wp_iconst (a := 1) (pc' := 86) rfl rfl rfl ?_
        refine wp_ret rfl rfl rfl ?_
        refine ⟨_, rfl, ?_, ?_⟩
        · rw [up_ne (by decide)]
        obtain ⟨w1, hw1⟩ : ∃ w1, w1 = up w 0 14 (w32 (lDiv (sumI (w (54 + 2 * r)) (w (53 + 2 * r) 1)) (w (53 + 2 * r) 1))) := ⟨_, rfl⟩
        rw [← hw1]
        have hT : Stc w1 := by rw [hw1]; exact hT.putF (by decide)
        have eo : ∀ q : Int, q ≠ 0 → w1 q = w q := fun q a => by rw [hw1, up_ne a]
        have e102 : w1 102 r = w 102 r := by rw [eo 102 (by decide)]
        refine wp_iload_n (pc' := 1) rfl rfl rfl ?_
        refine wp_call (pc' := 4) rfl rfl rfl rfl rfl ⟨Nat.le_of_ble_eq_true rfl, Nat.le_of_ble_eq_true rfl, Nat.le_of_ble_eq_true rfl, Nat.le_of_ble_eq_true rfl, Nat.le_of_ble_eq_true rfl⟩ rfl (c_Mod_isRow) ?_
        rintro v1 w9 ⟨hw9, ⟨hv1, hb1⟩ | ⟨hv1, hb1⟩⟩
        · skip
          rw [hv1, hw9]
          clear hv1 hw9 v1 w9
          dsimp only [Option.toList, List.cons_append, List.nil_append, List.append_nil]
          refine wp_if_ne (pc' := 7) (pt := 9) rfl rfl rfl (fun q_129 => ?_) (fun q_129 => absurd (by decide) q_129)
          refine wp_aload_n (pc' := 10) rfl rfl rfl (by decide) ?_
          refine wp_getR (r' := 102) (ci := 10) (k0 := 5) (pc' := 13) rfl rfl (by decide) (by first | assumption | rfl) (hT.get 100 rfl) ?_
          refine wp_iload_n (pc' := 14) rfl rfl rfl ?_
          refine wp_iaload (pc' := 15) rfl rfl (by first | assumption | rfl) (by omega) ?_
          refine wp_if_ge (pc' := 18) (pt := 24) rfl rfl rfl (fun q_130 => ?_) (fun q_130 => ?_)
          · skip
            refine wp_aload_n (pc' := 25) rfl rfl rfl (by decide) ?_
            refine wp_getR (r' := 102) (ci := 10) (k0 := 5) (pc' := 28) rfl rfl (by decide) (by first | assumption | rfl) (hT.get 100 rfl) ?_
            refine wp_iload_n (pc' := 29) rfl rfl rfl ?_
            refine wp_iaload (pc' := 30) rfl rfl (by first | assumption | rfl) (by omega) ?_
            refine wp_if_ne (pc' := 33) (pt := 39) rfl rfl rfl (fun q_131 => ?_) (fun q_131 => ?_)
            · skip
              refine wp_lconst (a := 0) (pc' := 40) rfl rfl rfl ?_
              refine wp_lstore_n (pc' := 41) rfl rfl (Nat.le_of_ble_eq_true rfl) rfl ?_
              dsimp only [lset, lset2, List.set, List.getElem?_cons_zero, List.getElem?_cons_succ]
              refine wp_iconst (a := 0) (pc' := 42) rfl rfl rfl ?_
              refine wp_istore (pc' := 44) rfl rfl (Nat.le_of_ble_eq_true rfl) rfl ?_
              dsimp only [lset, lset2, List.set, List.getElem?_cons_zero, List.getElem?_cons_succ]
              refine l_Mmean hT hbr (by omega) (fun j a b => by rw [eo 103 (by decide)]; exact (hir.2.2 j a (by omega)).2) ?_ (w1 102 r).toNat 0 0 (by omega) (by omega) rfl
              refine wp_aload_n (pc' := 73) rfl rfl rfl (by decide) ?_
              refine wp_lload_n (pc' := 74) rfl rfl rfl ?_
              refine wp_aload_n (pc' := 75) rfl rfl rfl (by decide) ?_
              refine wp_getR (r' := 102) (ci := 10) (k0 := 5) (pc' := 78) rfl rfl (by decide) (by first | assumption | rfl) (hT.get 100 rfl) ?_
              refine wp_iload_n (pc' := 79) rfl rfl rfl ?_
              refine wp_iaload (pc' := 80) rfl rfl (by first | assumption | rfl) (by omega) ?_
              refine wp_i2l (pc' := 81) rfl rfl ?_
              refine wp_ldiv (pc' := 82) rfl rfl (by omega) (by first | exact lDiv_pos (by omega) (by omega) (by omega) | rfl) ?_
              refine wp_l2i (pc' := 83) rfl rfl (by first | exact w32_id (by omega) (by omega) | rfl) ?_
              refine wp_iconst (a := 1) (pc' := 84) rfl rfl rfl ?_
              refine wp_call (pc' := 87) rfl rfl rfl rfl rfl ⟨Nat.le_of_ble_eq_true rfl, Nat.le_of_ble_eq_true rfl, Nat.le_of_ble_eq_true rfl, Nat.le_of_ble_eq_true rfl, Nat.le_of_ble_eq_true rfl⟩ rfl (c_Mod_tells) ?_
              rintro v1 w6 ⟨hv1, hw6⟩
              rw [hv1]
              clear hv1 v1
              dsimp only [Option.toList, List.cons_append, List.nil_append, List.append_nil]
              refine wp_ret rfl rfl rfl ?_
              first
              | (exfalso; omega)
              | exact ⟨rfl, rfl, hI⟩
              | exact ⟨rfl, by rw [hw9, up_ne (by decide), up_ne (by decide)], by rw [hw9, hw1]; exact refW_inv hI (by decide)⟩
              | (refine ⟨rfl, by rw [hw6, up_ne (by decide)], hI.query (w' := w6) ?_ ?_⟩
                 · rw [hw6, hw1]
                   exact ((SameF.rf w _ _).put (Or.inr (by decide))).put (Or.inr (by decide))
                 · rw [hw6, up_eq, up_ne (by decide)]
                   rw [hw1, up_eq, ← hw1, eo 102 (by decide), eo 103 (by decide), hir.1]
                   rw [sumI_congr (f := w (54 + 2 * r)) (g := fun j => w 103 (40 * r + j)) (fun j a b => (hir.2.2 j a (by omega)).1)])
            · skip
              refine wp_aload_n (pc' := 34) rfl rfl rfl (by decide) ?_
              refine wp_iconst (a := 4) (pc' := 35) rfl rfl rfl ?_
              refine wp_call (pc' := 38) rfl rfl rfl rfl rfl ⟨Nat.le_of_ble_eq_true rfl, Nat.le_of_ble_eq_true rfl, Nat.le_of_ble_eq_true rfl, Nat.le_of_ble_eq_true rfl, Nat.le_of_ble_eq_true rfl⟩ rfl (c_Mod_meets hT (by decide)) ?_
              rintro v1 w9 ⟨hv1, hw9⟩
              rw [hv1]
              clear hv1 v1
              dsimp only [Option.toList, List.cons_append, List.nil_append, List.append_nil]
              refine wp_ret rfl rfl rfl ?_
              first
              | (exfalso; omega)
              | exact ⟨rfl, rfl, hI⟩
              | exact ⟨rfl, by rw [hw9, up_ne (by decide), up_ne (by decide)], by rw [hw9, hw1]; exact refW_inv hI (by decide)⟩
              | (refine ⟨rfl, by rw [hw6, up_ne (by decide)], hI.query (w' := w6) ?_ ?_⟩
                 · rw [hw6, hw1]
                   exact ((SameF.rf w _ _).put (Or.inr (by decide))).put (Or.inr (by decide))
                 · rw [hw6, up_eq, up_ne (by decide)]
                   rw [hw1, up_eq, ← hw1, eo 102 (by decide), eo 103 (by decide), hir.1]
                   rw [sumI_congr (f := w (54 + 2 * r)) (g := fun j => w 103 (40 * r + j)) (fun j a b => (hir.2.2 j a (by omega)).1)])
          · skip
            refine wp_aload_n (pc' := 19) rfl rfl rfl (by decide) ?_
            refine wp_iconst (a := 1) (pc' := 20) rfl rfl rfl ?_
            refine wp_call (pc' := 23) rfl rfl rfl rfl rfl ⟨Nat.le_of_ble_eq_true rfl, Nat.le_of_ble_eq_true rfl, Nat.le_of_ble_eq_true rfl, Nat.le_of_ble_eq_true rfl, Nat.le_of_ble_eq_true rfl⟩ rfl (c_Mod_meets hT (by decide)) ?_
            rintro v1 w9 ⟨hv1, hw9⟩
            rw [hv1]
            clear hv1 v1
            dsimp only [Option.toList, List.cons_append, List.nil_append, List.append_nil]
            refine wp_ret rfl rfl rfl ?_
            first
            | (exfalso; omega)
            | exact ⟨rfl, rfl, hI⟩
            | exact ⟨rfl, by rw [hw9, up_ne (by decide), up_ne (by decide)], by rw [hw9, hw1]; exact refW_inv hI (by decide)⟩
            | (refine ⟨rfl, by rw [hw6, up_ne (by decide)], hI.query (w' := w6) ?_ ?_⟩
               · rw [hw6, hw1]
                 exact ((SameF.rf w _ _).put (Or.inr (by decide))).put (Or.inr (by decide))
               · rw [hw6, up_eq, up_ne (by decide)]
                 rw [hw1, up_eq, ← hw1, eo 102 (by decide), eo 103 (by decide), hir.1]
                 rw [sumI_congr (f := w (54 + 2 * r)) (g := fun j => w 103 (40 * r + j)) (fun j a b => (hir.2.2 j a (by omega)).1)])
        · skip
          rw [hv1, hw9]
          clear hv1 hw9 v1 w9
          dsimp only [Option.toList, List.cons_append, List.nil_append, List.append_nil]
          refine wp_if_ne (pc' := 7) (pt := 9) rfl rfl rfl (fun q_152 => absurd q_152 (by decide)) (fun q_152 => ?_)
          refine wp_iconst (a := -1) (pc' := 8) rfl rfl rfl ?_
          refine wp_ret rfl rfl rfl ?_
          first
          | (exfalso; omega)
          | exact ⟨rfl, rfl, hI⟩
          | exact ⟨rfl, by rw [hw9, up_ne (by decide), up_ne (by decide)], by rw [hw9, hw1]; exact refW_inv hI (by decide)⟩
          | (refine ⟨rfl, by rw [hw6, up_ne (by decide)], hI.query (w' := w6) ?_ ?_⟩
             · rw [hw6, hw1]
               exact ((SameF.rf w _ _).put (Or.inr (by decide))).put (Or.inr (by decide))
             · rw [hw6, up_eq, up_ne (by decide)]
               rw [hw1, up_eq, ← hw1, eo 102 (by decide), eo 103 (by decide), hir.1]
               rw [sumI_congr (f := w (54 + 2 * r)) (g := fun j => w 103 (40 * r + j)) (fun j a b => (hir.2.2 j a (by omega)).1)])
      · skip
        refine wp_aload_n (pc' := 37) rfl rfl rfl (by decide) ?_
        refine wp_iconst (a := 4) (pc' := 38) rfl rfl rfl ?_
        refine wp_call (pc' := 41) rfl rfl rfl rfl rfl ⟨Nat.le_of_ble_eq_true rfl, Nat.le_of_ble_eq_true rfl, Nat.le_of_ble_eq_true rfl, Nat.le_of_ble_eq_true rfl, Nat.le_of_ble_eq_true rfl⟩ rfl (c_VH_refuse hT (by decide)) ?_
        intro v1 w1 hq1
        obtain ⟨hv1, hw1⟩ := hq1
        rw [hv1]
        clear hv1 v1
        change w1 = refW w _ at hw1
        have hT := (by rw [hw1]; exact refW_stc hT : Stc w1)
        have e2 : w1 (-2) = w (-2) := by rw [hw1]; exact refW_ne (by decide) (by decide)
        have e102 : w1 102 r = w 102 r := by rw [hw1, refW_ne (by decide) (by decide)]
        dsimp only [Option.toList, List.cons_append, List.nil_append, List.append_nil]
        refine wp_ret rfl rfl rfl ?_
        refine ⟨_, rfl, ?_, ?_⟩
        · first | exact e2 | rfl
        refine wp_iload_n (pc' := 1) rfl rfl rfl ?_
        refine wp_call (pc' := 4) rfl rfl rfl rfl rfl ⟨Nat.le_of_ble_eq_true rfl, Nat.le_of_ble_eq_true rfl, Nat.le_of_ble_eq_true rfl, Nat.le_of_ble_eq_true rfl, Nat.le_of_ble_eq_true rfl⟩ rfl (c_Mod_isRow) ?_
        rintro v1 w9 ⟨hw9, ⟨hv1, hb1⟩ | ⟨hv1, hb1⟩⟩
        · skip
          rw [hv1, hw9]
          clear hv1 hw9 v1 w9
          dsimp only [Option.toList, List.cons_append, List.nil_append, List.append_nil]
          refine wp_if_ne (pc' := 7) (pt := 9) rfl rfl rfl (fun q_203 => ?_) (fun q_203 => absurd (by decide) q_203)
          refine wp_aload_n (pc' := 10) rfl rfl rfl (by decide) ?_
          refine wp_getR (r' := 102) (ci := 10) (k0 := 5) (pc' := 13) rfl rfl (by decide) (by first | assumption | rfl) (hT.get 100 rfl) ?_
          refine wp_iload_n (pc' := 14) rfl rfl rfl ?_
          refine wp_iaload (pc' := 15) rfl rfl (by first | assumption | rfl) (by omega) ?_
          refine wp_if_ge (pc' := 18) (pt := 24) rfl rfl rfl (fun q_204 => ?_) (fun q_204 => ?_)
          · skip
            refine wp_aload_n (pc' := 25) rfl rfl rfl (by decide) ?_
            refine wp_getR (r' := 102) (ci := 10) (k0 := 5) (pc' := 28) rfl rfl (by decide) (by first | assumption | rfl) (hT.get 100 rfl) ?_
            refine wp_iload_n (pc' := 29) rfl rfl rfl ?_
            refine wp_iaload (pc' := 30) rfl rfl (by first | assumption | rfl) (by omega) ?_
            refine wp_if_ne (pc' := 33) (pt := 39) rfl rfl rfl (fun q_205 => ?_) (fun q_205 => ?_)
            · skip
              exfalso; omega
            · skip
              refine wp_aload_n (pc' := 34) rfl rfl rfl (by decide) ?_
              refine wp_iconst (a := 4) (pc' := 35) rfl rfl rfl ?_
              refine wp_call (pc' := 38) rfl rfl rfl rfl rfl ⟨Nat.le_of_ble_eq_true rfl, Nat.le_of_ble_eq_true rfl, Nat.le_of_ble_eq_true rfl, Nat.le_of_ble_eq_true rfl, Nat.le_of_ble_eq_true rfl⟩ rfl (c_Mod_meets hT (by decide)) ?_
              rintro v1 w9 ⟨hv1, hw9⟩
              rw [hv1]
              clear hv1 v1
              dsimp only [Option.toList, List.cons_append, List.nil_append, List.append_nil]
              refine wp_ret rfl rfl rfl ?_
              first
              | (exfalso; omega)
              | exact ⟨rfl, rfl, hI⟩
              | exact ⟨rfl, by rw [hw9, up_ne (by decide), up_ne (by decide)], by rw [hw9, hw1]; exact refW_inv hI (by decide)⟩
              | (refine ⟨rfl, by rw [hw6, up_ne (by decide)], hI.query (w' := w6) ?_ ?_⟩
                 · rw [hw6, hw1]
                   exact ((SameF.rf w _ _).put (Or.inr (by decide))).put (Or.inr (by decide))
                 · rw [hw6, up_eq, up_ne (by decide)]
                   rw [hw1, up_eq, ← hw1, eo 102 (by decide), eo 103 (by decide), hir.1]
                   rw [sumI_congr (f := w (54 + 2 * r)) (g := fun j => w 103 (40 * r + j)) (fun j a b => (hir.2.2 j a (by omega)).1)])
          · skip
            refine wp_aload_n (pc' := 19) rfl rfl rfl (by decide) ?_
            refine wp_iconst (a := 1) (pc' := 20) rfl rfl rfl ?_
            refine wp_call (pc' := 23) rfl rfl rfl rfl rfl ⟨Nat.le_of_ble_eq_true rfl, Nat.le_of_ble_eq_true rfl, Nat.le_of_ble_eq_true rfl, Nat.le_of_ble_eq_true rfl, Nat.le_of_ble_eq_true rfl⟩ rfl (c_Mod_meets hT (by decide)) ?_
            rintro v1 w9 ⟨hv1, hw9⟩
            rw [hv1]
            clear hv1 v1
            dsimp only [Option.toList, List.cons_append, List.nil_append, List.append_nil]
            refine wp_ret rfl rfl rfl ?_
            first
            | (exfalso; omega)
            | exact ⟨rfl, rfl, hI⟩
            | exact ⟨rfl, by rw [hw9, up_ne (by decide), up_ne (by decide)], by rw [hw9, hw1]; exact refW_inv hI (by decide)⟩
            | (refine ⟨rfl, by rw [hw6, up_ne (by decide)], hI.query (w' := w6) ?_ ?_⟩
               · rw [hw6, hw1]
                 exact ((SameF.rf w _ _).put (Or.inr (by decide))).put (Or.inr (by decide))
               · rw [hw6, up_eq, up_ne (by decide)]
                 rw [hw1, up_eq, ← hw1, eo 102 (by decide), eo 103 (by decide), hir.1]
                 rw [sumI_congr (f := w (54 + 2 * r)) (g := fun j => w 103 (40 * r + j)) (fun j a b => (hir.2.2 j a (by omega)).1)])
        · skip
          rw [hv1, hw9]
          clear hv1 hw9 v1 w9
          dsimp only [Option.toList, List.cons_append, List.nil_append, List.append_nil]
          refine wp_if_ne (pc' := 7) (pt := 9) rfl rfl rfl (fun q_206 => absurd q_206 (by decide)) (fun q_206 => ?_)
          refine wp_iconst (a := -1) (pc' := 8) rfl rfl rfl ?_
          refine wp_ret rfl rfl rfl ?_
          first
          | (exfalso; omega)
          | exact ⟨rfl, rfl, hI⟩
          | exact ⟨rfl, by rw [hw9, up_ne (by decide), up_ne (by decide)], by rw [hw9, hw1]; exact refW_inv hI (by decide)⟩
          | (refine ⟨rfl, by rw [hw6, up_ne (by decide)], hI.query (w' := w6) ?_ ?_⟩
             · rw [hw6, hw1]
               exact ((SameF.rf w _ _).put (Or.inr (by decide))).put (Or.inr (by decide))
             · rw [hw6, up_eq, up_ne (by decide)]
               rw [hw1, up_eq, ← hw1, eo 102 (by decide), eo 103 (by decide), hir.1]
               rw [sumI_congr (f := w (54 + 2 * r)) (g := fun j => w 103 (40 * r + j)) (fun j a b => (hir.2.2 j a (by omega)).1)])
  · skip
    rw [hv1, hw9]
    clear hv1 hw9 v1 w9
    dsimp only [Option.toList, List.cons_append, List.nil_append, List.append_nil]
    refine wp_if_ne (pc' := 7) (pt := 9) rfl rfl rfl (fun q_207 => absurd q_207 (by decide)) (fun q_207 => ?_)
    refine wp_iconst (a := -1) (pc' := 8) rfl rfl rfl ?_
    refine wp_ret rfl rfl rfl ?_
    refine ⟨_, rfl, ?_, ?_⟩
    · first | exact e2 | rfl
    refine wp_iload_n (pc' := 1) rfl rfl rfl ?_
    refine wp_call (pc' := 4) rfl rfl rfl rfl rfl ⟨Nat.le_of_ble_eq_true rfl, Nat.le_of_ble_eq_true rfl, Nat.le_of_ble_eq_true rfl, Nat.le_of_ble_eq_true rfl, Nat.le_of_ble_eq_true rfl⟩ rfl (c_Mod_isRow) ?_
    rintro v1 w9 ⟨hw9, ⟨hv1, hb1⟩ | ⟨hv1, hb1⟩⟩
    · skip
      rw [hv1, hw9]
      clear hv1 hw9 v1 w9
      dsimp only [Option.toList, List.cons_append, List.nil_append, List.append_nil]
      refine wp_if_ne (pc' := 7) (pt := 9) rfl rfl rfl (fun q_258 => ?_) (fun q_258 => absurd (by decide) q_258)
      refine wp_aload_n (pc' := 10) rfl rfl rfl (by decide) ?_
      refine wp_getR (r' := 102) (ci := 10) (k0 := 5) (pc' := 13) rfl rfl (by decide) (by first | assumption | rfl) (hT.get 100 rfl) ?_
      refine wp_iload_n (pc' := 14) rfl rfl rfl ?_
      refine wp_iaload (pc' := 15) rfl rfl (by first | assumption | rfl) (by omega) ?_
      refine wp_if_ge (pc' := 18) (pt := 24) rfl rfl rfl (fun q_259 => ?_) (fun q_259 => ?_)
      · skip
        refine wp_aload_n (pc' := 25) rfl rfl rfl (by decide) ?_
        refine wp_getR (r' := 102) (ci := 10) (k0 := 5) (pc' := 28) rfl rfl (by decide) (by first | assumption | rfl) (hT.get 100 rfl) ?_
        refine wp_iload_n (pc' := 29) rfl rfl rfl ?_
        refine wp_iaload (pc' := 30) rfl rfl (by first | assumption | rfl) (by omega) ?_
        refine wp_if_ne (pc' := 33) (pt := 39) rfl rfl rfl (fun q_260 => ?_) (fun q_260 => ?_)
        · skip
          exfalso; omega
        · skip
          refine wp_aload_n (pc' := 34) rfl rfl rfl (by decide) ?_
          refine wp_iconst (a := 4) (pc' := 35) rfl rfl rfl ?_
          refine wp_call (pc' := 38) rfl rfl rfl rfl rfl ⟨Nat.le_of_ble_eq_true rfl, Nat.le_of_ble_eq_true rfl, Nat.le_of_ble_eq_true rfl, Nat.le_of_ble_eq_true rfl, Nat.le_of_ble_eq_true rfl⟩ rfl (c_Mod_meets hT (by decide)) ?_
          rintro v1 w9 ⟨hv1, hw9⟩
          rw [hv1]
          clear hv1 v1
          dsimp only [Option.toList, List.cons_append, List.nil_append, List.append_nil]
          refine wp_ret rfl rfl rfl ?_
          first
          | (exfalso; omega)
          | exact ⟨rfl, rfl, hI⟩
          | exact ⟨rfl, by rw [hw9, up_ne (by decide), up_ne (by decide)], by rw [hw9, hw1]; exact refW_inv hI (by decide)⟩
          | (refine ⟨rfl, by rw [hw6, up_ne (by decide)], hI.query (w' := w6) ?_ ?_⟩
             · rw [hw6, hw1]
               exact ((SameF.rf w _ _).put (Or.inr (by decide))).put (Or.inr (by decide))
             · rw [hw6, up_eq, up_ne (by decide)]
               rw [hw1, up_eq, ← hw1, eo 102 (by decide), eo 103 (by decide), hir.1]
               rw [sumI_congr (f := w (54 + 2 * r)) (g := fun j => w 103 (40 * r + j)) (fun j a b => (hir.2.2 j a (by omega)).1)])
      · skip
        refine wp_aload_n (pc' := 19) rfl rfl rfl (by decide) ?_
        refine wp_iconst (a := 1) (pc' := 20) rfl rfl rfl ?_
        refine wp_call (pc' := 23) rfl rfl rfl rfl rfl ⟨Nat.le_of_ble_eq_true rfl, Nat.le_of_ble_eq_true rfl, Nat.le_of_ble_eq_true rfl, Nat.le_of_ble_eq_true rfl, Nat.le_of_ble_eq_true rfl⟩ rfl (c_Mod_meets hT (by decide)) ?_
        rintro v1 w9 ⟨hv1, hw9⟩
        rw [hv1]
        clear hv1 v1
        dsimp only [Option.toList, List.cons_append, List.nil_append, List.append_nil]
        refine wp_ret rfl rfl rfl ?_
        first
        | (exfalso; omega)
        | exact ⟨rfl, rfl, hI⟩
        | exact ⟨rfl, by rw [hw9, up_ne (by decide), up_ne (by decide)], by rw [hw9, hw1]; exact refW_inv hI (by decide)⟩
        | (refine ⟨rfl, by rw [hw6, up_ne (by decide)], hI.query (w' := w6) ?_ ?_⟩
           · rw [hw6, hw1]
             exact ((SameF.rf w _ _).put (Or.inr (by decide))).put (Or.inr (by decide))
           · rw [hw6, up_eq, up_ne (by decide)]
             rw [hw1, up_eq, ← hw1, eo 102 (by decide), eo 103 (by decide), hir.1]
             rw [sumI_congr (f := w (54 + 2 * r)) (g := fun j => w 103 (40 * r + j)) (fun j a b => (hir.2.2 j a (by omega)).1)])
    · skip
      rw [hv1, hw9]
      clear hv1 hw9 v1 w9
      dsimp only [Option.toList, List.cons_append, List.nil_append, List.append_nil]
      refine wp_if_ne (pc' := 7) (pt := 9) rfl rfl rfl (fun q_261 => absurd q_261 (by decide)) (fun q_261 => ?_)
      refine wp_iconst (a := -1) (pc' := 8) rfl rfl rfl ?_
      refine wp_ret rfl rfl rfl ?_
      first
      | (exfalso; omega)
      | exact ⟨rfl, rfl, hI⟩
      | exact ⟨rfl, by rw [hw9, up_ne (by decide), up_ne (by decide)], by rw [hw9, hw1]; exact refW_inv hI (by decide)⟩
      | (refine ⟨rfl, by rw [hw6, up_ne (by decide)], hI.query (w' := w6) ?_ ?_⟩
         · rw [hw6, hw1]
           exact ((SameF.rf w _ _).put (Or.inr (by decide))).put (Or.inr (by decide))
         · rw [hw6, up_eq, up_ne (by decide)]
           rw [hw1, up_eq, ← hw1, eo 102 (by decide), eo 103 (by decide), hir.1]
           rw [sumI_congr (f := w (54 + 2 * r)) (g := fun j => w 103 (40 * r + j)) (fun j a b => (hir.2.2 j a (by omega)).1)])
