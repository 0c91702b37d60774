/-! questions: nothing but what is aside, and what is told, changes -/
def LQ : List Int := [13, 14, 15, 16, 17, 18, 19, 20, 24, 25, 27, 29, 32, 33, 34, 35, 36, 38, 39, 40, 41, 42, 43, 44, 46, 48, 49, 51, 104, 110, 111, 112, 113, 119, 120, 121, 122, 123]
def FQ : List (Int × Int) := [(0, 14), (12, 0), (12, 1), (12, 2), (12, 3), (12, 4), (12, 5), (12, 6), (22, 0), (22, 1), (26, 0), (26, 1), (26, 2), (45, 0), (50, 3), (100, 2), (100, 17), (100, 18), (100, 19), (100, 34), (100, 35), (100, 36), (100, 37)]
theorem Inv.query {w w' : Hp} (h : Inv w) (hs : SameF w w' LQ FQ) (ht : w' 0 14 = w' 100 2) : Inv w' := by
  obtain ⟨h1, h2, h3, h4, h5, h6, h7, h8⟩ := h
  have hc : ∀ q : Int, q ∉ LQ → (∀ z ∈ FQ, z.1 ≠ q) → w' q = w q := fun q a b => hs.cell q a b
  have hr : ∀ q : Int, (3 ≤ q ∧ q ≤ 11) ∨ (52 ≤ q ∧ q ≤ 99) ∨ (101 ≤ q ∧ q ≤ 103) ∨ (105 ≤ q ∧ q ≤ 109) ∨ (114 ≤ q ∧ q ≤ 118) ∨ (q < 0) ∨ q = 31 → w' q = w q := fun q hq => hc q (by simp [LQ]; omega) (fun z hz => by
    have hz2 : FQ.all (fun z => decide (z.1 = 0 ∨ z.1 = 12 ∨ z.1 = 22 ∨ z.1 = 26 ∨ z.1 = 45 ∨ z.1 = 50 ∨ z.1 = 100)) = true := by decide
    have := of_decide_eq_true (List.all_eq_true.mp hz2 z hz)
    omega)
  have hf : ∀ k : Int, k = 0 ∨ k = 3 ∨ k = 4 ∨ k = 10 ∨ k = 11 ∨ k = 12 ∨ k = 23 → w' 100 k = w 100 k := fun k hk => hs 100 k (by decide) (by rcases hk with rfl | rfl | rfl | rfl | rfl | rfl | rfl <;> decide)
  have hls : LandSame w w' := ⟨fun q a b => hr q (by omega), fun q a b => hr q (by omega), ⟨hf 10 (by omega), hf 11 (by omega), hf 12 (by omega)⟩, hf 23 (by omega), hr 107 (by omega), hr 108 (by omega), hr 109 (by omega), hr 114 (by omega), hr 115 (by omega), hr 116 (by omega), hr 117 (by omega), hr 118 (by omega)⟩
  refine ⟨h1.sameF hs (by decide), ?_, ?_, ht, ?_, ?_, h7.ls hls, h8.ls hls⟩
  · unfold ROw at h2 ⊢
    rw [hr (-3) (by omega), hr (-4) (by omega), hr (-5) (by omega)]
    exact h2
  · unfold IFd at h3 ⊢
    rw [hs 0 13 (by decide) (by decide), hf 0 (by omega), hf 3 (by omega), hf 4 (by omega), hr 52 (by omega), hr 101 (by omega), hs 50 0 (by decide) (by decide), hs 50 1 (by decide) (by decide), hr 31 (by omega)]
    exact h3
  · intro q a b
    rw [hr (53 + 2 * q) (by omega), hr (54 + 2 * q) (by omega), hr 102 (by omega), hr 103 (by omega)]
    exact h5 q a b
  · intro q a b
    rw [hr (65 + 2 * q) (by omega), hr (66 + 2 * q) (by omega), hr 105 (by omega), hr 106 (by omega)]
    exact h6 q a b
set_option maxRecDepth 20000 in
set_option maxHeartbeats 4000000 in
theorem p_at {w : Hp} {d : Nat} {r : Int} {i : Int} (hI : Inv w) : WP SH (d + 9) 82 0 [some (vR 0), some (vI r), some (vI i), none] [] w (fun v0 w1 => ∃ a, v0 = some (vI a) ∧ w1 (-2) = w (-2) ∧ WP SH (d + 9) 152 0 [some (vR 100), some (vI r), some (vI i)] [] w1 (fun v2 w2 => v2 = some (vI a) ∧ w2 (-2) = w1 (-2) ∧ Inv w2)) := by
  obtain ⟨hT, hRO, hIF, hITo, hIR, hIT, hIL, hIK⟩ := id hI
  refine wp_iload_n (pc' := 1) rfl rfl rfl ?_
  refine wp_call (pc' := 4) rfl rfl rfl rfl rfl ⟨Nat.le_of_ble_eq_true rfl, Nat.le_of_ble_eq_true rfl, Nat.le_of_ble_eq_true rfl, Nat.le_of_ble_eq_true rfl, Nat.le_of_ble_eq_true rfl⟩ rfl (c_VH_isRow) ?_
  rintro v1 w9 ⟨hw9, ⟨hv1, hb1⟩ | ⟨hv1, hb1⟩⟩
  · skip
    rw [hv1, hw9]
    clear hv1 hw9 v1 w9
    have hst := strip_row hT hb1.1 hb1.2
    have hs7 := hst.1.1
    have hs1 := hst.1.2.1
    have hir := hIR r hb1.1 hb1.2
    have hbr := hb1
    dsimp only [Option.toList, List.cons_append, List.nil_append, List.append_nil]
    refine wp_if_eq (pc' := 7) (pt := 21) rfl rfl rfl (fun q_1 => absurd q_1 (by decide)) (fun q_1 => ?_)
    refine wp_aload_n (pc' := 8) rfl rfl rfl (by decide) ?_
    refine wp_aload_n (pc' := 9) rfl rfl rfl (by decide) ?_
    refine wp_getR (r' := 1) (ci := 9) (k0 := 0) (pc' := 12) rfl rfl (by decide) (by first | assumption | rfl) (hT.get 0 rfl) ?_
    refine wp_iload_n (pc' := 13) rfl rfl rfl ?_
    refine wp_aaload (r' := (53 + 2 * r)) (pc' := 14) rfl rfl (by first | assumption | rfl) rfl (by omega) (by first | exact hst.2 | (rw [up_ne (by decide)]; exact hst.2)) ?_
    refine wp_iload_n (pc' := 15) rfl rfl rfl ?_
    refine wp_call (pc' := 18) rfl rfl rfl rfl rfl ⟨Nat.le_of_ble_eq_true rfl, Nat.le_of_ble_eq_true rfl, Nat.le_of_ble_eq_true rfl, Nat.le_of_ble_eq_true rfl, Nat.le_of_ble_eq_true rfl⟩ rfl (c_VH_placeRefusal (w := w) hT hst.1) ?_
    rintro v1 w1 (⟨hv1, hp1, hw1⟩ | ⟨hv1, hp1, hp2, hw1⟩ | ⟨hv1, hp1, hp2, hp3, hw1⟩)
    · skip
      rw [hv1]
      clear hv1 v1
      have hT := (by rw [hw1]; exact refW_stc hT : Stc w1)
      have e2 : w1 (-2) = w (-2) := by rw [hw1]; exact refW_ne (by decide) (by decide)
      have e102 : w1 102 r = w 102 r := by rw [hw1, refW_ne (by decide) (by decide)]
      dsimp only [Option.toList, List.cons_append, List.nil_append, List.append_nil]
      refine wp_goto (pc' := 22) rfl rfl ?_
      refine wp_istore_n (pc' := 23) rfl rfl (Nat.le_of_ble_eq_true rfl) rfl ?_
      dsimp only [lset, lset2, List.set, List.getElem?_cons_zero, List.getElem?_cons_succ]
      refine wp_iload_n (pc' := 24) rfl rfl rfl ?_
      refine wp_if_eq (pc' := 27) (pt := 29) rfl rfl rfl (fun q_2 => absurd q_2 (by decide)) (fun q_2 => ?_)
      refine wp_iload_n (pc' := 28) rfl rfl rfl ?_
      refine wp_ret rfl rfl rfl ?_
      refine ⟨_, rfl, ?_, ?_⟩
      · first | exact e2 | rfl
      refine wp_iload_n (pc' := 1) rfl rfl rfl ?_
      refine wp_call (pc' := 4) rfl rfl rfl rfl rfl ⟨Nat.le_of_ble_eq_true rfl, Nat.le_of_ble_eq_true rfl, Nat.le_of_ble_eq_true rfl, Nat.le_of_ble_eq_true rfl, Nat.le_of_ble_eq_true rfl⟩ rfl (c_Mod_isRow) ?_
      rintro v1 w9 ⟨hw9, ⟨hv1, hb1⟩ | ⟨hv1, hb1⟩⟩
      · skip
        rw [hv1, hw9]
        clear hv1 hw9 v1 w9
        dsimp only [Option.toList, List.cons_append, List.nil_append, List.append_nil]
        refine wp_if_ne (pc' := 7) (pt := 9) rfl rfl rfl (fun q_53 => ?_) (fun q_53 => absurd (by decide) q_53)
        refine wp_aload_n (pc' := 10) rfl rfl rfl (by decide) ?_
        refine wp_getR (r' := 102) (ci := 10) (k0 := 5) (pc' := 13) rfl rfl (by decide) (by first | assumption | rfl) (hT.get 100 rfl) ?_
        refine wp_iload_n (pc' := 14) rfl rfl rfl ?_
        refine wp_iaload (pc' := 15) rfl rfl (by first | assumption | rfl) (by omega) ?_
        refine wp_if_ge (pc' := 18) (pt := 24) rfl rfl rfl (fun q_54 => ?_) (fun q_54 => ?_)
        · skip
          refine wp_iload_n (pc' := 25) rfl rfl rfl ?_
          refine wp_iconst (a := 0) (pc' := 26) rfl rfl rfl ?_
          refine wp_aload_n (pc' := 27) rfl rfl rfl (by decide) ?_
          refine wp_getR (r' := 102) (ci := 10) (k0 := 5) (pc' := 30) rfl rfl (by decide) (by first | assumption | rfl) (hT.get 100 rfl) ?_
          refine wp_iload_n (pc' := 31) rfl rfl rfl ?_
          refine wp_iaload (pc' := 32) rfl rfl (by first | assumption | rfl) (by omega) ?_
          refine wp_iconst (a := 1) (pc' := 33) rfl rfl rfl ?_
          refine wp_isub (pc' := 34) rfl rfl (by first | exact w32_id (by omega) (by omega) | rfl) ?_
          refine wp_call (pc' := 37) rfl rfl rfl rfl rfl ⟨Nat.le_of_ble_eq_true rfl, Nat.le_of_ble_eq_true rfl, Nat.le_of_ble_eq_true rfl, Nat.le_of_ble_eq_true rfl, Nat.le_of_ble_eq_true rfl⟩ rfl (c_Mod_in) ?_
          rintro v1 w9 ⟨hw9, ⟨hv1, hb1⟩ | ⟨hv1, hb1⟩⟩
          · skip
            rw [hv1, hw9]
            clear hv1 hw9 v1 w9
            dsimp only [Option.toList, List.cons_append, List.nil_append, List.append_nil]
            refine wp_if_eq (pc' := 40) (pt := 54) rfl rfl rfl (fun q_55 => absurd q_55 (by decide)) (fun q_55 => ?_)
            refine wp_aload_n (pc' := 41) rfl rfl rfl (by decide) ?_
            refine wp_aload_n (pc' := 42) rfl rfl rfl (by decide) ?_
            refine wp_iload_n (pc' := 43) rfl rfl rfl ?_
            refine wp_iload_n (pc' := 44) rfl rfl rfl ?_
            refine wp_call (pc' := 47) rfl rfl rfl rfl rfl ⟨Nat.le_of_ble_eq_true rfl, Nat.le_of_ble_eq_true rfl, Nat.le_of_ble_eq_true rfl, Nat.le_of_ble_eq_true rfl, Nat.le_of_ble_eq_true rfl⟩ rfl (c_Mod_rowAt hT (by omega) (by omega)) ?_
            intro v1 w9 hq1
            rw [hq1.1, hq1.2]
            clear hq1 v1 w9
            dsimp only [Option.toList, List.cons_append, List.nil_append, List.append_nil]
            refine wp_iconst (a := 1) (pc' := 48) rfl rfl rfl ?_
            refine wp_call (pc' := 51) rfl rfl rfl rfl rfl ⟨Nat.le_of_ble_eq_true rfl, Nat.le_of_ble_eq_true rfl, Nat.le_of_ble_eq_true rfl, Nat.le_of_ble_eq_true rfl, Nat.le_of_ble_eq_true rfl⟩ rfl (c_Mod_tells) ?_
            intro v1 w9 hq1
            rw [hq1.1, hq1.2]
            clear hq1 v1 w9
            dsimp only [Option.toList, List.cons_append, List.nil_append, List.append_nil]
            refine wp_goto (pc' := 59) rfl rfl ?_
            refine wp_ret rfl rfl rfl ?_
            first
            | (exfalso; omega)
            | exact ⟨rfl, rfl, hI⟩
            | exact ⟨rfl, by rw [hw9, up_ne (by decide), up_ne (by decide)], by rw [hw9, hw1]; exact refW_inv hI (by decide)⟩
            | (have hij := hir.2.2 i (by omega) (by omega)
               refine ⟨rfl, by rw [up_ne (by decide)], hI.query (w' := up w1 100 2 (w1 103 (40 * r + i))) ?_ ?_⟩
               · rw [hw1]
                 exact ((SameF.rf w _ _).put (Or.inr (by decide))).put (Or.inr (by decide))
               · rw [up_eq, up_ne (by decide), eo 103 (by decide), hw1, up_eq]
                 exact hij.1)
          · skip
            rw [hv1, hw9]
            clear hv1 hw9 v1 w9
            dsimp only [Option.toList, List.cons_append, List.nil_append, List.append_nil]
            refine wp_if_eq (pc' := 40) (pt := 54) rfl rfl rfl (fun q_56 => ?_) (fun q_56 => absurd (by decide) q_56)
            refine wp_aload_n (pc' := 55) rfl rfl rfl (by decide) ?_
            refine wp_iconst (a := 2) (pc' := 56) rfl rfl rfl ?_
            refine wp_call (pc' := 59) rfl rfl rfl rfl rfl ⟨Nat.le_of_ble_eq_true rfl, Nat.le_of_ble_eq_true rfl, Nat.le_of_ble_eq_true rfl, Nat.le_of_ble_eq_true rfl, Nat.le_of_ble_eq_true rfl⟩ rfl (c_Mod_meets hT (by decide)) ?_
            rintro v1 w9 ⟨hv1, hw9⟩
            rw [hv1]
            clear hv1 v1
            dsimp only [Option.toList, List.cons_append, List.nil_append, List.append_nil]
            refine wp_ret rfl rfl rfl ?_
            first
            | (exfalso; omega)
            | exact ⟨rfl, rfl, hI⟩
            | exact ⟨rfl, by rw [hw9, up_ne (by decide), up_ne (by decide)], by rw [hw9, hw1]; exact refW_inv hI (by decide)⟩
            | (have hij := hir.2.2 i (by omega) (by omega)
               refine ⟨rfl, by rw [up_ne (by decide)], hI.query (w' := up w1 100 2 (w1 103 (40 * r + i))) ?_ ?_⟩
               · rw [hw1]
                 exact ((SameF.rf w _ _).put (Or.inr (by decide))).put (Or.inr (by decide))
               · rw [up_eq, up_ne (by decide), eo 103 (by decide), hw1, up_eq]
                 exact hij.1)
        · skip
          refine wp_aload_n (pc' := 19) rfl rfl rfl (by decide) ?_
          refine wp_iconst (a := 1) (pc' := 20) rfl rfl rfl ?_
          refine wp_call (pc' := 23) rfl rfl rfl rfl rfl ⟨Nat.le_of_ble_eq_true rfl, Nat.le_of_ble_eq_true rfl, Nat.le_of_ble_eq_true rfl, Nat.le_of_ble_eq_true rfl, Nat.le_of_ble_eq_true rfl⟩ rfl (c_Mod_meets hT (by decide)) ?_
          rintro v1 w9 ⟨hv1, hw9⟩
          rw [hv1]
          clear hv1 v1
          dsimp only [Option.toList, List.cons_append, List.nil_append, List.append_nil]
          refine wp_ret rfl rfl rfl ?_
          first
          | (exfalso; omega)
          | exact ⟨rfl, rfl, hI⟩
          | exact ⟨rfl, by rw [hw9, up_ne (by decide), up_ne (by decide)], by rw [hw9, hw1]; exact refW_inv hI (by decide)⟩
          | (have hij := hir.2.2 i (by omega) (by omega)
             refine ⟨rfl, by rw [up_ne (by decide)], hI.query (w' := up w1 100 2 (w1 103 (40 * r + i))) ?_ ?_⟩
             · rw [hw1]
               exact ((SameF.rf w _ _).put (Or.inr (by decide))).put (Or.inr (by decide))
             · rw [up_eq, up_ne (by decide), eo 103 (by decide), hw1, up_eq]
               exact hij.1)
      · skip
        rw [hv1, hw9]
        clear hv1 hw9 v1 w9
        dsimp only [Option.toList, List.cons_append, List.nil_append, List.append_nil]
        refine wp_if_ne (pc' := 7) (pt := 9) rfl rfl rfl (fun q_57 => absurd q_57 (by decide)) (fun q_57 => ?_)
        refine wp_iconst (a := -1) (pc' := 8) rfl rfl rfl ?_
        refine wp_ret rfl rfl rfl ?_
        first
        | (exfalso; omega)
        | exact ⟨rfl, rfl, hI⟩
        | exact ⟨rfl, by rw [hw9, up_ne (by decide), up_ne (by decide)], by rw [hw9, hw1]; exact refW_inv hI (by decide)⟩
        | (have hij := hir.2.2 i (by omega) (by omega)
           refine ⟨rfl, by rw [up_ne (by decide)], hI.query (w' := up w1 100 2 (w1 103 (40 * r + i))) ?_ ?_⟩
           · rw [hw1]
             exact ((SameF.rf w _ _).put (Or.inr (by decide))).put (Or.inr (by decide))
           · rw [up_eq, up_ne (by decide), eo 103 (by decide), hw1, up_eq]
             exact hij.1)
    · skip
      rw [hv1]
      clear hv1 v1
      have hT := (by rw [hw1]; exact refW_stc hT : Stc w1)
      have e2 : w1 (-2) = w (-2) := by rw [hw1]; exact refW_ne (by decide) (by decide)
      have e102 : w1 102 r = w 102 r := by rw [hw1, refW_ne (by decide) (by decide)]
      dsimp only [Option.toList, List.cons_append, List.nil_append, List.append_nil]
      refine wp_goto (pc' := 22) rfl rfl ?_
      refine wp_istore_n (pc' := 23) rfl rfl (Nat.le_of_ble_eq_true rfl) rfl ?_
      dsimp only [lset, lset2, List.set, List.getElem?_cons_zero, List.getElem?_cons_succ]
      refine wp_iload_n (pc' := 24) rfl rfl rfl ?_
      refine wp_if_eq (pc' := 27) (pt := 29) rfl rfl rfl (fun q_58 => absurd q_58 (by decide)) (fun q_58 => ?_)
      refine wp_iload_n (pc' := 28) rfl rfl rfl ?_
      refine wp_ret rfl rfl rfl ?_
      refine ⟨_, rfl, ?_, ?_⟩
      · first | exact e2 | rfl
      refine wp_iload_n (pc' := 1) rfl rfl rfl ?_
      refine wp_call (pc' := 4) rfl rfl rfl rfl rfl ⟨Nat.le_of_ble_eq_true rfl, Nat.le_of_ble_eq_true rfl, Nat.le_of_ble_eq_true rfl, Nat.le_of_ble_eq_true rfl, Nat.le_of_ble_eq_true rfl⟩ rfl (c_Mod_isRow) ?_
      rintro v1 w9 ⟨hw9, ⟨hv1, hb1⟩ | ⟨hv1, hb1⟩⟩
      · skip
        rw [hv1, hw9]
        clear hv1 hw9 v1 w9
        dsimp only [Option.toList, List.cons_append, List.nil_append, List.append_nil]
        refine wp_if_ne (pc' := 7) (pt := 9) rfl rfl rfl (fun q_109 => ?_) (fun q_109 => absurd (by decide) q_109)
        refine wp_aload_n (pc' := 10) rfl rfl rfl (by decide) ?_
        refine wp_getR (r' := 102) (ci := 10) (k0 := 5) (pc' := 13) rfl rfl (by decide) (by first | assumption | rfl) (hT.get 100 rfl) ?_
        refine wp_iload_n (pc' := 14) rfl rfl rfl ?_
        refine wp_iaload (pc' := 15) rfl rfl (by first | assumption | rfl) (by omega) ?_
        refine wp_if_ge (pc' := 18) (pt := 24) rfl rfl rfl (fun q_110 => ?_) (fun q_110 => ?_)
        · skip
          refine wp_iload_n (pc' := 25) rfl rfl rfl ?_
          refine wp_iconst (a := 0) (pc' := 26) rfl rfl rfl ?_
          refine wp_aload_n (pc' := 27) rfl rfl rfl (by decide) ?_
          refine wp_getR (r' := 102) (ci := 10) (k0 := 5) (pc' := 30) rfl rfl (by decide) (by first | assumption | rfl) (hT.get 100 rfl) ?_
          refine wp_iload_n (pc' := 31) rfl rfl rfl ?_
          refine wp_iaload (pc' := 32) rfl rfl (by first | assumption | rfl) (by omega) ?_
          refine wp_iconst (a := 1) (pc' := 33) rfl rfl rfl ?_
          refine wp_isub (pc' := 34) rfl rfl (by first | exact w32_id (by omega) (by omega) | rfl) ?_
          refine wp_call (pc' := 37) rfl rfl rfl rfl rfl ⟨Nat.le_of_ble_eq_true rfl, Nat.le_of_ble_eq_true rfl, Nat.le_of_ble_eq_true rfl, Nat.le_of_ble_eq_true rfl, Nat.le_of_ble_eq_true rfl⟩ rfl (c_Mod_in) ?_
          rintro v1 w9 ⟨hw9, ⟨hv1, hb1⟩ | ⟨hv1, hb1⟩⟩
          · skip
            rw [hv1, hw9]
            clear hv1 hw9 v1 w9
            dsimp only [Option.toList, List.cons_append, List.nil_append, List.append_nil]
            refine wp_if_eq (pc' := 40) (pt := 54) rfl rfl rfl (fun q_111 => absurd q_111 (by decide)) (fun q_111 => ?_)
            refine wp_aload_n (pc' := 41) rfl rfl rfl (by decide) ?_
            refine wp_aload_n (pc' := 42) rfl rfl rfl (by decide) ?_
            refine wp_iload_n (pc' := 43) rfl rfl rfl ?_
            refine wp_iload_n (pc' := 44) rfl rfl rfl ?_
            refine wp_call (pc' := 47) rfl rfl rfl rfl rfl ⟨Nat.le_of_ble_eq_true rfl, Nat.le_of_ble_eq_true rfl, Nat.le_of_ble_eq_true rfl, Nat.le_of_ble_eq_true rfl, Nat.le_of_ble_eq_true rfl⟩ rfl (c_Mod_rowAt hT (by omega) (by omega)) ?_
            intro v1 w9 hq1
            rw [hq1.1, hq1.2]
            clear hq1 v1 w9
            dsimp only [Option.toList, List.cons_append, List.nil_append, List.append_nil]
            refine wp_iconst (a := 1) (pc' := 48) rfl rfl rfl ?_
            refine wp_call (pc' := 51) rfl rfl rfl rfl rfl ⟨Nat.le_of_ble_eq_true rfl, Nat.le_of_ble_eq_true rfl, Nat.le_of_ble_eq_true rfl, Nat.le_of_ble_eq_true rfl, Nat.le_of_ble_eq_true rfl⟩ rfl (c_Mod_tells) ?_
            intro v1 w9 hq1
            rw [hq1.1, hq1.2]
            clear hq1 v1 w9
            dsimp only [Option.toList, List.cons_append, List.nil_append, List.append_nil]
            refine wp_goto (pc' := 59) rfl rfl ?_
            refine wp_ret rfl rfl rfl ?_
            first
            | (exfalso; omega)
            | exact ⟨rfl, rfl, hI⟩
            | exact ⟨rfl, by rw [hw9, up_ne (by decide), up_ne (by decide)], by rw [hw9, hw1]; exact refW_inv hI (by decide)⟩
            | (have hij := hir.2.2 i (by omega) (by omega)
               refine ⟨rfl, by rw [up_ne (by decide)], hI.query (w' := up w1 100 2 (w1 103 (40 * r + i))) ?_ ?_⟩
               · rw [hw1]
                 exact ((SameF.rf w _ _).put (Or.inr (by decide))).put (Or.inr (by decide))
               · rw [up_eq, up_ne (by decide), eo 103 (by decide), hw1, up_eq]
                 exact hij.1)
          · skip
            rw [hv1, hw9]
            clear hv1 hw9 v1 w9
            dsimp only [Option.toList, List.cons_append, List.nil_append, List.append_nil]
            refine wp_if_eq (pc' := 40) (pt := 54) rfl rfl rfl (fun q_112 => ?_) (fun q_112 => absurd (by decide) q_112)
            refine wp_aload_n (pc' := 55) rfl rfl rfl (by decide) ?_
            refine wp_iconst (a := 2) (pc' := 56) rfl rfl rfl ?_
            refine wp_call (pc' := 59) rfl rfl rfl rfl rfl ⟨Nat.le_of_ble_eq_true rfl, Nat.le_of_ble_eq_true rfl, Nat.le_of_ble_eq_true rfl, Nat.le_of_ble_eq_true rfl, Nat.le_of_ble_eq_true rfl⟩ rfl (c_Mod_meets hT (by decide)) ?_
            rintro v1 w9 ⟨hv1, hw9⟩
            rw [hv1]
            clear hv1 v1
            dsimp only [Option.toList, List.cons_append, List.nil_append, List.append_nil]
            refine wp_ret rfl rfl rfl ?_
            first
            | (exfalso; omega)
            | exact ⟨rfl, rfl, hI⟩
            | exact ⟨rfl, by rw [hw9, up_ne (by decide), up_ne (by decide)], by rw [hw9, hw1]; exact refW_inv hI (by decide)⟩
            | (have hij := hir.2.2 i (by omega) (by omega)
               refine ⟨rfl, by rw [up_ne (by decide)], hI.query (w' := up w1 100 2 (w1 103 (40 * r + i))) ?_ ?_⟩
               · rw [hw1]
                 exact ((SameF.rf w _ _).put (Or.inr (by decide))).put (Or.inr (by decide))
               · rw [up_eq, up_ne (by decide), eo 103 (by decide), hw1, up_eq]
                 exact hij.1)
        · skip
          refine wp_aload_n (pc' := 19) rfl rfl rfl (by decide) ?_
          refine wp_iconst (a := 1) (pc' := 20) rfl rfl rfl ?_
          refine wp_call (pc' := 23) rfl rfl rfl rfl rfl ⟨Nat.le_of_ble_eq_true rfl, Nat.le_of_ble_eq_true rfl, Nat.le_of_ble_eq_true rfl, Nat.le_of_ble_eq_true rfl, Nat.le_of_ble_eq_true rfl⟩ rfl (c_Mod_meets hT (by decide)) ?_
          rintro v1 w9 ⟨hv1, hw9⟩
          rw [hv1]
          clear hv1 v1
          dsimp only [Option.toList, List.cons_append, List.nil_append, List.append_nil]
          refine wp_ret rfl rfl rfl ?_
          first
          | (exfalso; omega)
          | exact ⟨rfl, rfl, hI⟩
          | exact ⟨rfl, by rw [hw9, up_ne (by decide), up_ne (by decide)], by rw [hw9, hw1]; exact refW_inv hI (by decide)⟩
          | (have hij := hir.2.2 i (by omega) (by omega)
             refine ⟨rfl, by rw [up_ne (by decide)], hI.query (w' := up w1 100 2 (w1 103 (40 * r + i))) ?_ ?_⟩
             · rw [hw1]
               exact ((SameF.rf w _ _).put (Or.inr (by decide))).put (Or.inr (by decide))
             · rw [up_eq, up_ne (by decide), eo 103 (by decide), hw1, up_eq]
               exact hij.1)
      · skip
        rw [hv1, hw9]
        clear hv1 hw9 v1 w9
        dsimp only [Option.toList, List.cons_append, List.nil_append, List.append_nil]
        refine wp_if_ne (pc' := 7) (pt := 9) rfl rfl rfl (fun q_113 => absurd q_113 (by decide)) (fun q_113 => ?_)
        refine wp_iconst (a := -1) (pc' := 8) rfl rfl rfl ?_
        refine wp_ret rfl rfl rfl ?_
        first
        | (exfalso; omega)
        | exact ⟨rfl, rfl, hI⟩
        | exact ⟨rfl, by rw [hw9, up_ne (by decide), up_ne (by decide)], by rw [hw9, hw1]; exact refW_inv hI (by decide)⟩
        | (have hij := hir.2.2 i (by omega) (by omega)
           refine ⟨rfl, by rw [up_ne (by decide)], hI.query (w' := up w1 100 2 (w1 103 (40 * r + i))) ?_ ?_⟩
           · rw [hw1]
             exact ((SameF.rf w _ _).put (Or.inr (by decide))).put (Or.inr (by decide))
           · rw [up_eq, up_ne (by decide), eo 103 (by decide), hw1, up_eq]
             exact hij.1)
    · skip
      rw [hv1, hw1]
      clear hv1 hw1 v1 w1
      dsimp only [Option.toList, List.cons_append, List.nil_append, List.append_nil]
      refine wp_goto (pc' := 22) rfl rfl ?_
      refine wp_istore_n (pc' := 23) rfl rfl (Nat.le_of_ble_eq_true rfl) rfl ?_
      dsimp only [lset, lset2, List.set, List.getElem?_cons_zero, List.getElem?_cons_succ]
      refine wp_iload_n (pc' := 24) rfl rfl rfl ?_
      refine wp_if_eq (pc' := 27) (pt := 29) rfl rfl rfl (fun q_114 => ?_) (fun q_114 => absurd (by decide) q_114)
      refine wp_aload_n (pc' := 30) rfl rfl rfl (by decide) ?_
      refine wp_aload_n (pc' := 31) rfl rfl rfl (by decide) ?_
      refine wp_getR (r' := 1) (ci := 9) (k0 := 0) (pc' := 34) rfl rfl (by decide) (by first | assumption | rfl) (hT.get 0 rfl) ?_
      refine wp_iload_n (pc' := 35) rfl rfl rfl ?_
      refine wp_aaload (r' := (53 + 2 * r)) (pc' := 36) rfl rfl (by first | assumption | rfl) rfl (by omega) (by first | exact hst.2 | (rw [up_ne (by decide)]; exact hst.2)) ?_
      refine wp_getR (r' := (54 + 2 * r)) (ci := 7) (k0 := 0) (pc' := 39) rfl rfl (by decide) (by first | assumption | rfl) (by first | exact hst.1.2.2.1 | (rw [up_ne (by omega)]; exact hst.1.2.2.1)) ?_
      refine wp_iload_n (pc' := 40) rfl rfl rfl ?_
      refine wp_iaload (pc' := 41) rfl rfl (by first | assumption | rfl) (by omega) ?_
      refine wp_putI (ci := 9) (k0 := 14) (pc' := 44) rfl rfl (by decide) (by first | assumption | rfl) ?_
      refine wp_iconst (a := 1) (pc' := 45) rfl rfl rfl ?_
      refine wp_ret rfl rfl rfl ?_
      refine ⟨_, rfl, ?_, ?_⟩
      · rw [up_ne (by decide)]
      obtain ⟨w1, hw1⟩ : ∃ w1, w1 = up w 0 14 (w (54 + 2 * r) i) := ⟨_, rfl⟩
      rw [← hw1]
      have hT : Stc w1 := by rw [hw1]; exact hT.putF (by decide)
      have eo : ∀ q : Int, q ≠ 0 → w1 q = w q := fun q a => by rw [hw1, up_ne a]
      have e102 : w1 102 r = w 102 r := by rw [eo 102 (by decide)]
      refine wp_iload_n (pc' := 1) rfl rfl rfl ?_
      refine wp_call (pc' := 4) rfl rfl rfl rfl rfl ⟨Nat.le_of_ble_eq_true rfl, Nat.le_of_ble_eq_true rfl, Nat.le_of_ble_eq_true rfl, Nat.le_of_ble_eq_true rfl, Nat.le_of_ble_eq_true rfl⟩ rfl (c_Mod_isRow) ?_
      rintro v1 w9 ⟨hw9, ⟨hv1, hb1⟩ | ⟨hv1, hb1⟩⟩
      · skip
        rw [hv1, hw9]
        clear hv1 hw9 v1 w9
        dsimp only [Option.toList, List.cons_append, List.nil_append, List.append_nil]
        refine wp_if_ne (pc' := 7) (pt := 9) rfl rfl rfl (fun q_165 => ?_) (fun q_165 => absurd (by decide) q_165)
        refine wp_aload_n (pc' := 10) rfl rfl rfl (by decide) ?_
        refine wp_getR (r' := 102) (ci := 10) (k0 := 5) (pc' := 13) rfl rfl (by decide) (by first | assumption | rfl) (hT.get 100 rfl) ?_
        refine wp_iload_n (pc' := 14) rfl rfl rfl ?_
        refine wp_iaload (pc' := 15) rfl rfl (by first | assumption | rfl) (by omega) ?_
        refine wp_if_ge (pc' := 18) (pt := 24) rfl rfl rfl (fun q_166 => ?_) (fun q_166 => ?_)
        · skip
          refine wp_iload_n (pc' := 25) rfl rfl rfl ?_
          refine wp_iconst (a := 0) (pc' := 26) rfl rfl rfl ?_
          refine wp_aload_n (pc' := 27) rfl rfl rfl (by decide) ?_
          refine wp_getR (r' := 102) (ci := 10) (k0 := 5) (pc' := 30) rfl rfl (by decide) (by first | assumption | rfl) (hT.get 100 rfl) ?_
          refine wp_iload_n (pc' := 31) rfl rfl rfl ?_
          refine wp_iaload (pc' := 32) rfl rfl (by first | assumption | rfl) (by omega) ?_
          refine wp_iconst (a := 1) (pc' := 33) rfl rfl rfl ?_
          refine wp_isub (pc' := 34) rfl rfl (by first | exact w32_id (by omega) (by omega) | rfl) ?_
          refine wp_call (pc' := 37) rfl rfl rfl rfl rfl ⟨Nat.le_of_ble_eq_true rfl, Nat.le_of_ble_eq_true rfl, Nat.le_of_ble_eq_true rfl, Nat.le_of_ble_eq_true rfl, Nat.le_of_ble_eq_true rfl⟩ rfl (c_Mod_in) ?_
          rintro v1 w9 ⟨hw9, ⟨hv1, hb1⟩ | ⟨hv1, hb1⟩⟩
          · skip
            rw [hv1, hw9]
            clear hv1 hw9 v1 w9
            dsimp only [Option.toList, List.cons_append, List.nil_append, List.append_nil]
            refine wp_if_eq (pc' := 40) (pt := 54) rfl rfl rfl (fun q_167 => absurd q_167 (by decide)) (fun q_167 => ?_)
            refine wp_aload_n (pc' := 41) rfl rfl rfl (by decide) ?_
            refine wp_aload_n (pc' := 42) rfl rfl rfl (by decide) ?_
            refine wp_iload_n (pc' := 43) rfl rfl rfl ?_
            refine wp_iload_n (pc' := 44) rfl rfl rfl ?_
            refine wp_call (pc' := 47) rfl rfl rfl rfl rfl ⟨Nat.le_of_ble_eq_true rfl, Nat.le_of_ble_eq_true rfl, Nat.le_of_ble_eq_true rfl, Nat.le_of_ble_eq_true rfl, Nat.le_of_ble_eq_true rfl⟩ rfl (c_Mod_rowAt hT (by omega) (by omega)) ?_
            intro v1 w9 hq1
            rw [hq1.1, hq1.2]
            clear hq1 v1 w9
            dsimp only [Option.toList, List.cons_append, List.nil_append, List.append_nil]
            refine wp_iconst (a := 1) (pc' := 48) rfl rfl rfl ?_
            refine wp_call (pc' := 51) rfl rfl rfl rfl rfl ⟨Nat.le_of_ble_eq_true rfl, Nat.le_of_ble_eq_true rfl, Nat.le_of_ble_eq_true rfl, Nat.le_of_ble_eq_true rfl, Nat.le_of_ble_eq_true rfl⟩ rfl (c_Mod_tells) ?_
            intro v1 w9 hq1
            rw [hq1.1, hq1.2]
            clear hq1 v1 w9
            dsimp only [Option.toList, List.cons_append, List.nil_append, List.append_nil]
            refine wp_goto (pc' := 59) rfl rfl ?_
            refine wp_ret rfl rfl rfl ?_
            first
            | (exfalso; omega)
            | exact ⟨rfl, rfl, hI⟩
            | exact ⟨rfl, by rw [hw9, up_ne (by decide), up_ne (by decide)], by rw [hw9, hw1]; exact refW_inv hI (by decide)⟩
            | (have hij := hir.2.2 i (by omega) (by omega)
               refine ⟨rfl, by rw [up_ne (by decide)], hI.query (w' := up w1 100 2 (w1 103 (40 * r + i))) ?_ ?_⟩
               · rw [hw1]
                 exact ((SameF.rf w _ _).put (Or.inr (by decide))).put (Or.inr (by decide))
               · rw [up_eq, up_ne (by decide), eo 103 (by decide), hw1, up_eq]
                 exact hij.1)
          · skip
            rw [hv1, hw9]
            clear hv1 hw9 v1 w9
            dsimp only [Option.toList, List.cons_append, List.nil_append, List.append_nil]
            refine wp_if_eq (pc' := 40) (pt := 54) rfl rfl rfl (fun q_168 => ?_) (fun q_168 => absurd (by decide) q_168)
            refine wp_aload_n (pc' := 55) rfl rfl rfl (by decide) ?_
            refine wp_iconst (a := 2) (pc' := 56) rfl rfl rfl ?_
            refine wp_call (pc' := 59) rfl rfl rfl rfl rfl ⟨Nat.le_of_ble_eq_true rfl, Nat.le_of_ble_eq_true rfl, Nat.le_of_ble_eq_true rfl, Nat.le_of_ble_eq_true rfl, Nat.le_of_ble_eq_true rfl⟩ rfl (c_Mod_meets hT (by decide)) ?_
            rintro v1 w9 ⟨hv1, hw9⟩
            rw [hv1]
            clear hv1 v1
            dsimp only [Option.toList, List.cons_append, List.nil_append, List.append_nil]
            refine wp_ret rfl rfl rfl ?_
            first
            | (exfalso; omega)
            | exact ⟨rfl, rfl, hI⟩
            | exact ⟨rfl, by rw [hw9, up_ne (by decide), up_ne (by decide)], by rw [hw9, hw1]; exact refW_inv hI (by decide)⟩
            | (have hij := hir.2.2 i (by omega) (by omega)
               refine ⟨rfl, by rw [up_ne (by decide)], hI.query (w' := up w1 100 2 (w1 103 (40 * r + i))) ?_ ?_⟩
               · rw [hw1]
                 exact ((SameF.rf w _ _).put (Or.inr (by decide))).put (Or.inr (by decide))
               · rw [up_eq, up_ne (by decide), eo 103 (by decide), hw1, up_eq]
                 exact hij.1)
        · skip
          refine wp_aload_n (pc' := 19) rfl rfl rfl (by decide) ?_
          refine wp_iconst (a := 1) (pc' := 20) rfl rfl rfl ?_
          refine wp_call (pc' := 23) rfl rfl rfl rfl rfl ⟨Nat.le_of_ble_eq_true rfl, Nat.le_of_ble_eq_true rfl, Nat.le_of_ble_eq_true rfl, Nat.le_of_ble_eq_true rfl, Nat.le_of_ble_eq_true rfl⟩ rfl (c_Mod_meets hT (by decide)) ?_
          rintro v1 w9 ⟨hv1, hw9⟩
          rw [hv1]
          clear hv1 v1
          dsimp only [Option.toList, List.cons_append, List.nil_append, List.append_nil]
          refine wp_ret rfl rfl rfl ?_
          first
          | (exfalso; omega)
          | exact ⟨rfl, rfl, hI⟩
          | exact ⟨rfl, by rw [hw9, up_ne (by decide), up_ne (by decide)], by rw [hw9, hw1]; exact refW_inv hI (by decide)⟩
          | (have hij := hir.2.2 i (by omega) (by omega)
             refine ⟨rfl, by rw [up_ne (by decide)], hI.query (w' := up w1 100 2 (w1 103 (40 * r + i))) ?_ ?_⟩
             · rw [hw1]
               exact ((SameF.rf w _ _).put (Or.inr (by decide))).put (Or.inr (by decide))
             · rw [up_eq, up_ne (by decide), eo 103 (by decide), hw1, up_eq]
               exact hij.1)
      · skip
        rw [hv1, hw9]
        clear hv1 hw9 v1 w9
        dsimp only [Option.toList, List.cons_append, List.nil_append, List.append_nil]
        refine wp_if_ne (pc' := 7) (pt := 9) rfl rfl rfl (fun q_169 => absurd q_169 (by decide)) (fun q_169 => ?_)
        refine wp_iconst (a := -1) (pc' := 8) rfl rfl rfl ?_
        refine wp_ret rfl rfl rfl ?_
        first
        | (exfalso; omega)
        | exact ⟨rfl, rfl, hI⟩
        | exact ⟨rfl, by rw [hw9, up_ne (by decide), up_ne (by decide)], by rw [hw9, hw1]; exact refW_inv hI (by decide)⟩
        | (have hij := hir.2.2 i (by omega) (by omega)
           refine ⟨rfl, by rw [up_ne (by decide)], hI.query (w' := up w1 100 2 (w1 103 (40 * r + i))) ?_ ?_⟩
           · rw [hw1]
             exact ((SameF.rf w _ _).put (Or.inr (by decide))).put (Or.inr (by decide))
           · rw [up_eq, up_ne (by decide), eo 103 (by decide), hw1, up_eq]
             exact hij.1)
  · skip
    rw [hv1, hw9]
    clear hv1 hw9 v1 w9
    dsimp only [Option.toList, List.cons_append, List.nil_append, List.append_nil]
    refine wp_if_eq (pc' := 7) (pt := 21) rfl rfl rfl (fun q_170 => ?_) (fun q_170 => absurd (by decide) q_170)
    refine wp_iconst (a := -1) (pc' := 22) rfl rfl rfl ?_
    refine wp_istore_n (pc' := 23) rfl rfl (Nat.le_of_ble_eq_true rfl) rfl ?_
    dsimp only [lset, lset2, List.set, List.getElem?_cons_zero, List.getElem?_cons_succ]
    refine wp_iload_n (pc' := 24) rfl rfl rfl ?_
    refine wp_if_eq (pc' := 27) (pt := 29) rfl rfl rfl (fun q_171 => absurd q_171 (by decide)) (fun q_171 => ?_)
    refine wp_iload_n (pc' := 28) rfl rfl rfl ?_
    refine wp_ret rfl rfl rfl ?_
    refine ⟨_, rfl, ?_, ?_⟩
    · first | exact e2 | rfl
    refine wp_iload_n (pc' := 1) rfl rfl rfl ?_
    refine wp_call (pc' := 4) rfl rfl rfl rfl rfl ⟨Nat.le_of_ble_eq_true rfl, Nat.le_of_ble_eq_true rfl, Nat.le_of_ble_eq_true rfl, Nat.le_of_ble_eq_true rfl, Nat.le_of_ble_eq_true rfl⟩ rfl (c_Mod_isRow) ?_
    rintro v1 w9 ⟨hw9, ⟨hv1, hb1⟩ | ⟨hv1, hb1⟩⟩
    · skip
      rw [hv1, hw9]
      clear hv1 hw9 v1 w9
      dsimp only [Option.toList, List.cons_append, List.nil_append, List.append_nil]
      refine wp_if_ne (pc' := 7) (pt := 9) rfl rfl rfl (fun q_222 => ?_) (fun q_222 => absurd (by decide) q_222)
      refine wp_aload_n (pc' := 10) rfl rfl rfl (by decide) ?_
      refine wp_getR (r' := 102) (ci := 10) (k0 := 5) (pc' := 13) rfl rfl (by decide) (by first | assumption | rfl) (hT.get 100 rfl) ?_
      refine wp_iload_n (pc' := 14) rfl rfl rfl ?_
      refine wp_iaload (pc' := 15) rfl rfl (by first | assumption | rfl) (by omega) ?_
      refine wp_if_ge (pc' := 18) (pt := 24) rfl rfl rfl (fun q_223 => ?_) (fun q_223 => ?_)
      · skip
        refine wp_iload_n (pc' := 25) rfl rfl rfl ?_
        refine wp_iconst (a := 0) (pc' := 26) rfl rfl rfl ?_
        refine wp_aload_n (pc' := 27) rfl rfl rfl (by decide) ?_
        refine wp_getR (r' := 102) (ci := 10) (k0 := 5) (pc' := 30) rfl rfl (by decide) (by first | assumption | rfl) (hT.get 100 rfl) ?_
        refine wp_iload_n (pc' := 31) rfl rfl rfl ?_
        refine wp_iaload (pc' := 32) rfl rfl (by first | assumption | rfl) (by omega) ?_
        refine wp_iconst (a := 1) (pc' := 33) rfl rfl rfl ?_
        refine wp_isub (pc' := 34) rfl rfl (by first | exact w32_id (by omega) (by omega) | rfl) ?_
        refine wp_call (pc' := 37) rfl rfl rfl rfl rfl ⟨Nat.le_of_ble_eq_true rfl, Nat.le_of_ble_eq_true rfl, Nat.le_of_ble_eq_true rfl, Nat.le_of_ble_eq_true rfl, Nat.le_of_ble_eq_true rfl⟩ rfl (c_Mod_in) ?_
        rintro v1 w9 ⟨hw9, ⟨hv1, hb1⟩ | ⟨hv1, hb1⟩⟩
        · skip
          rw [hv1, hw9]
          clear hv1 hw9 v1 w9
          dsimp only [Option.toList, List.cons_append, List.nil_append, List.append_nil]
          refine wp_if_eq (pc' := 40) (pt := 54) rfl rfl rfl (fun q_224 => absurd q_224 (by decide)) (fun q_224 => ?_)
          refine wp_aload_n (pc' := 41) rfl rfl rfl (by decide) ?_
          refine wp_aload_n (pc' := 42) rfl rfl rfl (by decide) ?_
          refine wp_iload_n (pc' := 43) rfl rfl rfl ?_
          refine wp_iload_n (pc' := 44) rfl rfl rfl ?_
          refine wp_call (pc' := 47) rfl rfl rfl rfl rfl ⟨Nat.le_of_ble_eq_true rfl, Nat.le_of_ble_eq_true rfl, Nat.le_of_ble_eq_true rfl, Nat.le_of_ble_eq_true rfl, Nat.le_of_ble_eq_true rfl⟩ rfl (c_Mod_rowAt hT (by omega) (by omega)) ?_
          intro v1 w9 hq1
          rw [hq1.1, hq1.2]
          clear hq1 v1 w9
          dsimp only [Option.toList, List.cons_append, List.nil_append, List.append_nil]
          refine wp_iconst (a := 1) (pc' := 48) rfl rfl rfl ?_
          refine wp_call (pc' := 51) rfl rfl rfl rfl rfl ⟨Nat.le_of_ble_eq_true rfl, Nat.le_of_ble_eq_true rfl, Nat.le_of_ble_eq_true rfl, Nat.le_of_ble_eq_true rfl, Nat.le_of_ble_eq_true rfl⟩ rfl (c_Mod_tells) ?_
          intro v1 w9 hq1
          rw [hq1.1, hq1.2]
          clear hq1 v1 w9
          dsimp only [Option.toList, List.cons_append, List.nil_append, List.append_nil]
          refine wp_goto (pc' := 59) rfl rfl ?_
          refine wp_ret rfl rfl rfl ?_
          first
          | (exfalso; omega)
          | exact ⟨rfl, rfl, hI⟩
          | exact ⟨rfl, by rw [hw9, up_ne (by decide), up_ne (by decide)], by rw [hw9, hw1]; exact refW_inv hI (by decide)⟩
          | (have hij := hir.2.2 i (by omega) (by omega)
             refine ⟨rfl, by rw [up_ne (by decide)], hI.query (w' := up w1 100 2 (w1 103 (40 * r + i))) ?_ ?_⟩
             · rw [hw1]
               exact ((SameF.rf w _ _).put (Or.inr (by decide))).put (Or.inr (by decide))
             · rw [up_eq, up_ne (by decide), eo 103 (by decide), hw1, up_eq]
               exact hij.1)
        · skip
          rw [hv1, hw9]
          clear hv1 hw9 v1 w9
          dsimp only [Option.toList, List.cons_append, List.nil_append, List.append_nil]
          refine wp_if_eq (pc' := 40) (pt := 54) rfl rfl rfl (fun q_225 => ?_) (fun q_225 => absurd (by decide) q_225)
          refine wp_aload_n (pc' := 55) rfl rfl rfl (by decide) ?_
          refine wp_iconst (a := 2) (pc' := 56) rfl rfl rfl ?_
          refine wp_call (pc' := 59) rfl rfl rfl rfl rfl ⟨Nat.le_of_ble_eq_true rfl, Nat.le_of_ble_eq_true rfl, Nat.le_of_ble_eq_true rfl, Nat.le_of_ble_eq_true rfl, Nat.le_of_ble_eq_true rfl⟩ rfl (c_Mod_meets hT (by decide)) ?_
          rintro v1 w9 ⟨hv1, hw9⟩
          rw [hv1]
          clear hv1 v1
          dsimp only [Option.toList, List.cons_append, List.nil_append, List.append_nil]
          refine wp_ret rfl rfl rfl ?_
          first
          | (exfalso; omega)
          | exact ⟨rfl, rfl, hI⟩
          | exact ⟨rfl, by rw [hw9, up_ne (by decide), up_ne (by decide)], by rw [hw9, hw1]; exact refW_inv hI (by decide)⟩
          | (have hij := hir.2.2 i (by omega) (by omega)
             refine ⟨rfl, by rw [up_ne (by decide)], hI.query (w' := up w1 100 2 (w1 103 (40 * r + i))) ?_ ?_⟩
             · rw [hw1]
               exact ((SameF.rf w _ _).put (Or.inr (by decide))).put (Or.inr (by decide))
             · rw [up_eq, up_ne (by decide), eo 103 (by decide), hw1, up_eq]
               exact hij.1)
      · skip
        refine wp_aload_n (pc' := 19) rfl rfl rfl (by decide) ?_
        refine wp_iconst (a := 1) (pc' := 20) rfl rfl rfl ?_
        refine wp_call (pc' := 23) rfl rfl rfl rfl rfl ⟨Nat.le_of_ble_eq_true rfl, Nat.le_of_ble_eq_true rfl, Nat.le_of_ble_eq_true rfl, Nat.le_of_ble_eq_true rfl, Nat.le_of_ble_eq_true rfl⟩ rfl (c_Mod_meets hT (by decide)) ?_
        rintro v1 w9 ⟨hv1, hw9⟩
        rw [hv1]
        clear hv1 v1
        dsimp only [Option.toList, List.cons_append, List.nil_append, List.append_nil]
        refine wp_ret rfl rfl rfl ?_
        first
        | (exfalso; omega)
        | exact ⟨rfl, rfl, hI⟩
        | exact ⟨rfl, by rw [hw9, up_ne (by decide), up_ne (by decide)], by rw [hw9, hw1]; exact refW_inv hI (by decide)⟩
        | (have hij := hir.2.2 i (by omega) (by omega)
           refine ⟨rfl, by rw [up_ne (by decide)], hI.query (w' := up w1 100 2 (w1 103 (40 * r + i))) ?_ ?_⟩
           · rw [hw1]
             exact ((SameF.rf w _ _).put (Or.inr (by decide))).put (Or.inr (by decide))
           · rw [up_eq, up_ne (by decide), eo 103 (by decide), hw1, up_eq]
             exact hij.1)
    · skip
      rw [hv1, hw9]
      clear hv1 hw9 v1 w9
      dsimp only [Option.toList, List.cons_append, List.nil_append, List.append_nil]
      refine wp_if_ne (pc' := 7) (pt := 9) rfl rfl rfl (fun q_226 => absurd q_226 (by decide)) (fun q_226 => ?_)
      refine wp_iconst (a := -1) (pc' := 8) rfl rfl rfl ?_
      refine wp_ret rfl rfl rfl ?_
      first
      | (exfalso; omega)
      | exact ⟨rfl, rfl, hI⟩
      | exact ⟨rfl, by rw [hw9, up_ne (by decide), up_ne (by decide)], by rw [hw9, hw1]; exact refW_inv hI (by decide)⟩
      | (have hij := hir.2.2 i (by omega) (by omega)
         refine ⟨rfl, by rw [up_ne (by decide)], hI.query (w' := up w1 100 2 (w1 103 (40 * r + i))) ?_ ?_⟩
         · rw [hw1]
           exact ((SameF.rf w _ _).put (Or.inr (by decide))).put (Or.inr (by decide))
         · rw [up_eq, up_ne (by decide), eo 103 (by decide), hw1, up_eq]
           exact hij.1)
set_option maxRecDepth 20000 in
set_option maxHeartbeats 4000000 in
theorem p_tear {w : Hp} {d : Nat} {r : Int} (hI : Inv w) : WP SH (d + 9) 83 0 [some (vR 0), some (vI r)] [] w (fun v0 w1 => ∃ a, v0 = some (vI a) ∧ w1 (-2) = w (-2) ∧ WP SH (d + 9) 153 0 [some (vR 100), some (vI r)] [] w1 (fun v2 w2 => v2 = some (vI a) ∧ w2 (-2) = w1 (-2) ∧ Inv w2)) := by
  obtain ⟨hT, hRO, hIF, hITo, hIR, hIT, hIL, hIK⟩ := id hI
  refine wp_iload_n (pc' := 1) rfl rfl rfl ?_
  refine wp_call (pc' := 4) rfl rfl rfl rfl rfl ⟨Nat.le_of_ble_eq_true rfl, Nat.le_of_ble_eq_true rfl, Nat.le_of_ble_eq_true rfl, Nat.le_of_ble_eq_true rfl, Nat.le_of_ble_eq_true rfl⟩ rfl (c_VH_isRow) ?_
  rintro v1 w9 ⟨hw9, ⟨hv1, hb1⟩ | ⟨hv1, hb1⟩⟩
  · skip
    rw [hv1, hw9]
    clear hv1 hw9 v1 w9
    have hst := strip_row hT hb1.1 hb1.2
    have hs7 := hst.1.1
    have hs1 := hst.1.2.1
    have hir := hIR r hb1.1 hb1.2
    have hbr := hb1
    dsimp only [Option.toList, List.cons_append, List.nil_append, List.append_nil]
    refine wp_if_ne (pc' := 7) (pt := 9) rfl rfl rfl (fun q_1 => ?_) (fun q_1 => absurd (by decide) q_1)
    refine wp_aload_n (pc' := 10) rfl rfl rfl (by decide) ?_
    refine wp_getR (r' := 1) (ci := 9) (k0 := 0) (pc' := 13) rfl rfl (by decide) (by first | assumption | rfl) (hT.get 0 rfl) ?_
    refine wp_iload_n (pc' := 14) rfl rfl rfl ?_
    refine wp_aaload (r' := (53 + 2 * r)) (pc' := 15) rfl rfl (by first | assumption | rfl) rfl (by omega) (by first | exact hst.2 | (rw [up_ne (by decide)]; exact hst.2)) ?_
    refine wp_call (pc' := 18) rfl rfl rfl rfl rfl ⟨Nat.le_of_ble_eq_true rfl, Nat.le_of_ble_eq_true rfl, Nat.le_of_ble_eq_true rfl, Nat.le_of_ble_eq_true rfl, Nat.le_of_ble_eq_true rfl⟩ (recv_strip hs7 (by decide)) (c_Strip_isMissing (w := w) hst.1) ?_
    rintro v1 w9 ⟨hw9, ⟨hv1, hb1⟩ | ⟨hv1, hb1⟩⟩
    · skip
      rw [hv1, hw9]
      clear hv1 hw9 v1 w9
      dsimp only [Option.toList, List.cons_append, List.nil_append, List.append_nil]
      refine wp_if_eq (pc' := 21) (pt := 27) rfl rfl rfl (fun q_2 => absurd q_2 (by decide)) (fun q_2 => ?_)
      refine wp_aload_n (pc' := 22) rfl rfl rfl (by decide) ?_
      refine wp_iconst (a := 1) (pc' := 23) rfl rfl rfl ?_
      refine wp_call (pc' := 26) rfl rfl rfl rfl rfl ⟨Nat.le_of_ble_eq_true rfl, Nat.le_of_ble_eq_true rfl, Nat.le_of_ble_eq_true rfl, Nat.le_of_ble_eq_true rfl, Nat.le_of_ble_eq_true rfl⟩ rfl (c_VH_refuse hT (by decide)) ?_
      intro v1 w1 hq1
      obtain ⟨hv1, hw1⟩ := hq1
      rw [hv1]
      clear hv1 v1
      change w1 = refW w 1 at hw1
      have hT := (by rw [hw1]; exact refW_stc hT : Stc w1)
      have e2 : w1 (-2) = w (-2) := by rw [hw1]; exact refW_ne (by decide) (by decide)
      have e102 : w1 102 r = w 102 r := by rw [hw1, refW_ne (by decide) (by decide)]
      dsimp only [Option.toList, List.cons_append, List.nil_append, List.append_nil]
      refine wp_ret rfl rfl rfl ?_
      refine ⟨_, rfl, ?_, ?_⟩
      · first | exact e2 | rfl
      refine wp_iload_n (pc' := 1) rfl rfl rfl ?_
      refine wp_call (pc' := 4) rfl rfl rfl rfl rfl ⟨Nat.le_of_ble_eq_true rfl, Nat.le_of_ble_eq_true rfl, Nat.le_of_ble_eq_true rfl, Nat.le_of_ble_eq_true rfl, Nat.le_of_ble_eq_true rfl⟩ rfl (c_Mod_isRow) ?_
      rintro v1 w9 ⟨hw9, ⟨hv1, hb1⟩ | ⟨hv1, hb1⟩⟩
      · skip
        rw [hv1, hw9]
        clear hv1 hw9 v1 w9
        dsimp only [Option.toList, List.cons_append, List.nil_append, List.append_nil]
        refine wp_if_ne (pc' := 7) (pt := 9) rfl rfl rfl (fun q_53 => ?_) (fun q_53 => absurd (by decide) q_53)
        refine wp_aload_n (pc' := 10) rfl rfl rfl (by decide) ?_
        refine wp_getR (r' := 102) (ci := 10) (k0 := 5) (pc' := 13) rfl rfl (by decide) (by first | assumption | rfl) (hT.get 100 rfl) ?_
        refine wp_iload_n (pc' := 14) rfl rfl rfl ?_
        refine wp_iaload (pc' := 15) rfl rfl (by first | assumption | rfl) (by omega) ?_
        refine wp_if_ge (pc' := 18) (pt := 24) rfl rfl rfl (fun q_54 => ?_) (fun q_54 => ?_)
        · skip
          refine wp_aload_n (pc' := 25) rfl rfl rfl (by decide) ?_
          refine wp_getR (r' := 102) (ci := 10) (k0 := 5) (pc' := 28) rfl rfl (by decide) (by first | assumption | rfl) (hT.get 100 rfl) ?_
          refine wp_iload_n (pc' := 29) rfl rfl rfl ?_
          refine wp_iconst (a := -1) (pc' := 30) rfl rfl rfl ?_
          refine wp_iastore (pc' := 31) rfl rfl (by first | assumption | rfl) (by omega) ?_
          refine wp_iconst (a := 1) (pc' := 32) rfl rfl rfl ?_
          refine wp_ret rfl rfl rfl ?_
          first
          | (exfalso; omega)
          | exact ⟨rfl, rfl, hI⟩
          | exact ⟨rfl, by rw [hw9, up_ne (by decide), up_ne (by decide)], by rw [hw9, hw1]; exact refW_inv hI (by decide)⟩
          | (refine ⟨rfl, by rw [up_ne (by decide)], hI.rows hbr.1 hbr.2 (w' := up w1 102 r (-1)) ?_ ?_ ⟨?_, ?_, ?_⟩ ?_⟩
             · rw [hw1]
               exact ((SameF.rf w _ _).put (Or.inr (by simp))).put (Or.inl (by simp))
             · rw [up_ne (by decide), up_ne (by decide), eo 0 (by omega), eo 100 (by omega)]
               exact hITo
             · rw [up_eq, up_ne (by omega), hw1, up_eq]
             · rw [up_eq]
               omega
             · intro j a b
               rw [up_eq] at b
               omega
             · intro q a b hq
               rw [up_at hq, eo 102 (by omega)]
               refine ⟨rfl, fun j x y => ?_⟩
               rw [up_ne (show (103 : Int) ≠ 102 by decide), eo 103 (by omega)])
        · skip
          refine wp_aload_n (pc' := 19) rfl rfl rfl (by decide) ?_
          refine wp_iconst (a := 1) (pc' := 20) rfl rfl rfl ?_
          refine wp_call (pc' := 23) rfl rfl rfl rfl rfl ⟨Nat.le_of_ble_eq_true rfl, Nat.le_of_ble_eq_true rfl, Nat.le_of_ble_eq_true rfl, Nat.le_of_ble_eq_true rfl, Nat.le_of_ble_eq_true rfl⟩ rfl (c_Mod_meets hT (by decide)) ?_
          rintro v1 w9 ⟨hv1, hw9⟩
          rw [hv1]
          clear hv1 v1
          dsimp only [Option.toList, List.cons_append, List.nil_append, List.append_nil]
          refine wp_ret rfl rfl rfl ?_
          first
          | (exfalso; omega)
          | exact ⟨rfl, rfl, hI⟩
          | exact ⟨rfl, by rw [hw9, up_ne (by decide), up_ne (by decide)], by rw [hw9, hw1]; exact refW_inv hI (by decide)⟩
          | (refine ⟨rfl, by rw [up_ne (by decide)], hI.rows hbr.1 hbr.2 (w' := up w1 102 r (-1)) ?_ ?_ ⟨?_, ?_, ?_⟩ ?_⟩
             · rw [hw1]
               exact ((SameF.rf w _ _).put (Or.inr (by simp))).put (Or.inl (by simp))
             · rw [up_ne (by decide), up_ne (by decide), eo 0 (by omega), eo 100 (by omega)]
               exact hITo
             · rw [up_eq, up_ne (by omega), hw1, up_eq]
             · rw [up_eq]
               omega
             · intro j a b
               rw [up_eq] at b
               omega
             · intro q a b hq
               rw [up_at hq, eo 102 (by omega)]
               refine ⟨rfl, fun j x y => ?_⟩
               rw [up_ne (show (103 : Int) ≠ 102 by decide), eo 103 (by omega)])
      · skip
        rw [hv1, hw9]
        clear hv1 hw9 v1 w9
        dsimp only [Option.toList, List.cons_append, List.nil_append, List.append_nil]
        refine wp_if_ne (pc' := 7) (pt := 9) rfl rfl rfl (fun q_55 => absurd q_55 (by decide)) (fun q_55 => ?_)
        refine wp_iconst (a := -1) (pc' := 8) rfl rfl rfl ?_
        refine wp_ret rfl rfl rfl ?_
        first
        | (exfalso; omega)
        | exact ⟨rfl, rfl, hI⟩
        | exact ⟨rfl, by rw [hw9, up_ne (by decide), up_ne (by decide)], by rw [hw9, hw1]; exact refW_inv hI (by decide)⟩
        | (refine ⟨rfl, by rw [up_ne (by decide)], hI.rows hbr.1 hbr.2 (w' := up w1 102 r (-1)) ?_ ?_ ⟨?_, ?_, ?_⟩ ?_⟩
           · rw [hw1]
             exact ((SameF.rf w _ _).put (Or.inr (by simp))).put (Or.inl (by simp))
           · rw [up_ne (by decide), up_ne (by decide), eo 0 (by omega), eo 100 (by omega)]
             exact hITo
           · rw [up_eq, up_ne (by omega), hw1, up_eq]
           · rw [up_eq]
             omega
           · intro j a b
             rw [up_eq] at b
             omega
           · intro q a b hq
             rw [up_at hq, eo 102 (by omega)]
             refine ⟨rfl, fun j x y => ?_⟩
             rw [up_ne (show (103 : Int) ≠ 102 by decide), eo 103 (by omega)])
    · skip
      rw [hv1, hw9]
      clear hv1 hw9 v1 w9
      dsimp only [Option.toList, List.cons_append, List.nil_append, List.append_nil]
      refine wp_if_eq (pc' := 21) (pt := 27) rfl rfl rfl (fun q_56 => ?_) (fun q_56 => absurd (by decide) q_56)
      refine wp_aload_n (pc' := 28) rfl rfl rfl (by decide) ?_
      refine wp_getR (r' := 1) (ci := 9) (k0 := 0) (pc' := 31) rfl rfl (by decide) (by first | assumption | rfl) (hT.get 0 rfl) ?_
      refine wp_iload_n (pc' := 32) rfl rfl rfl ?_
      refine wp_aaload (r' := (53 + 2 * r)) (pc' := 33) rfl rfl (by first | assumption | rfl) rfl (by omega) (by first | exact hst.2 | (rw [up_ne (by decide)]; exact hst.2)) ?_
      refine wp_call (pc' := 36) rfl rfl rfl rfl rfl ⟨Nat.le_of_ble_eq_true rfl, Nat.le_of_ble_eq_true rfl, Nat.le_of_ble_eq_true rfl, Nat.le_of_ble_eq_true rfl, Nat.le_of_ble_eq_true rfl⟩ (recv_strip hs7 (by decide)) (c_Strip_remove (w := w) hst.1) ?_
      intro v1 w1 hq1
      obtain ⟨hv1, hw1⟩ := hq1
      rw [hv1]
      clear hv1 v1
      have hT : Stc w1 := by rw [hw1]; exact Stc.row hT hbr.1 hbr.2 ((SameF.rf _ _ _).put (Or.inr (by simp)))
      have e2 : w1 (-2) = w (-2) := by rw [hw1, up_ne (by omega)]
      have eo : ∀ q : Int, q ≠ 53 + 2 * r → w1 q = w q := fun q a => by rw [hw1, up_ne a]
      have e102 : w1 102 r = w 102 r := by rw [eo 102 (by omega)]
      dsimp only [Option.toList, List.cons_append, List.nil_append, List.append_nil]
      refine wp_iconst (a := 1) (pc' := 37) rfl rfl rfl ?_
      refine wp_ret rfl rfl rfl ?_
      refine ⟨_, rfl, ?_, ?_⟩
      · first | exact e2 | rfl
      refine wp_iload_n (pc' := 1) rfl rfl rfl ?_
      refine wp_call (pc' := 4) rfl rfl rfl rfl rfl ⟨Nat.le_of_ble_eq_true rfl, Nat.le_of_ble_eq_true rfl, Nat.le_of_ble_eq_true rfl, Nat.le_of_ble_eq_true rfl, Nat.le_of_ble_eq_true rfl⟩ rfl (c_Mod_isRow) ?_
      rintro v1 w9 ⟨hw9, ⟨hv1, hb1⟩ | ⟨hv1, hb1⟩⟩
      · skip
        rw [hv1, hw9]
        clear hv1 hw9 v1 w9
        dsimp only [Option.toList, List.cons_append, List.nil_append, List.append_nil]
        refine wp_if_ne (pc' := 7) (pt := 9) rfl rfl rfl (fun q_107 => ?_) (fun q_107 => absurd (by decide) q_107)
        refine wp_aload_n (pc' := 10) rfl rfl rfl (by decide) ?_
        refine wp_getR (r' := 102) (ci := 10) (k0 := 5) (pc' := 13) rfl rfl (by decide) (by first | assumption | rfl) (hT.get 100 rfl) ?_
        refine wp_iload_n (pc' := 14) rfl rfl rfl ?_
        refine wp_iaload (pc' := 15) rfl rfl (by first | assumption | rfl) (by omega) ?_
        refine wp_if_ge (pc' := 18) (pt := 24) rfl rfl rfl (fun q_108 => ?_) (fun q_108 => ?_)
        · skip
          refine wp_aload_n (pc' := 25) rfl rfl rfl (by decide) ?_
          refine wp_getR (r' := 102) (ci := 10) (k0 := 5) (pc' := 28) rfl rfl (by decide) (by first | assumption | rfl) (hT.get 100 rfl) ?_
          refine wp_iload_n (pc' := 29) rfl rfl rfl ?_
          refine wp_iconst (a := -1) (pc' := 30) rfl rfl rfl ?_
          refine wp_iastore (pc' := 31) rfl rfl (by first | assumption | rfl) (by omega) ?_
          refine wp_iconst (a := 1) (pc' := 32) rfl rfl rfl ?_
          refine wp_ret rfl rfl rfl ?_
          first
          | (exfalso; omega)
          | exact ⟨rfl, rfl, hI⟩
          | exact ⟨rfl, by rw [hw9, up_ne (by decide), up_ne (by decide)], by rw [hw9, hw1]; exact refW_inv hI (by decide)⟩
          | (refine ⟨rfl, by rw [up_ne (by decide)], hI.rows hbr.1 hbr.2 (w' := up w1 102 r (-1)) ?_ ?_ ⟨?_, ?_, ?_⟩ ?_⟩
             · rw [hw1]
               exact ((SameF.rf w _ _).put (Or.inr (by simp))).put (Or.inl (by simp))
             · rw [up_ne (by decide), up_ne (by decide), eo 0 (by omega), eo 100 (by omega)]
               exact hITo
             · rw [up_eq, up_ne (by omega), hw1, up_eq]
             · rw [up_eq]
               omega
             · intro j a b
               rw [up_eq] at b
               omega
             · intro q a b hq
               rw [up_at hq, eo 102 (by omega)]
               refine ⟨rfl, fun j x y => ?_⟩
               rw [up_ne (show (103 : Int) ≠ 102 by decide), eo 103 (by omega)])
        · skip
          refine wp_aload_n (pc' := 19) rfl rfl rfl (by decide) ?_
          refine wp_iconst (a := 1) (pc' := 20) rfl rfl rfl ?_
          refine wp_call (pc' := 23) rfl rfl rfl rfl rfl ⟨Nat.le_of_ble_eq_true rfl, Nat.le_of_ble_eq_true rfl, Nat.le_of_ble_eq_true rfl, Nat.le_of_ble_eq_true rfl, Nat.le_of_ble_eq_true rfl⟩ rfl (c_Mod_meets hT (by decide)) ?_
          rintro v1 w9 ⟨hv1, hw9⟩
          rw [hv1]
          clear hv1 v1
          dsimp only [Option.toList, List.cons_append, List.nil_append, List.append_nil]
          refine wp_ret rfl rfl rfl ?_
          first
          | (exfalso; omega)
          | exact ⟨rfl, rfl, hI⟩
          | exact ⟨rfl, by rw [hw9, up_ne (by decide), up_ne (by decide)], by rw [hw9, hw1]; exact refW_inv hI (by decide)⟩
          | (refine ⟨rfl, by rw [up_ne (by decide)], hI.rows hbr.1 hbr.2 (w' := up w1 102 r (-1)) ?_ ?_ ⟨?_, ?_, ?_⟩ ?_⟩
             · rw [hw1]
               exact ((SameF.rf w _ _).put (Or.inr (by simp))).put (Or.inl (by simp))
             · rw [up_ne (by decide), up_ne (by decide), eo 0 (by omega), eo 100 (by omega)]
               exact hITo
             · rw [up_eq, up_ne (by omega), hw1, up_eq]
             · rw [up_eq]
               omega
             · intro j a b
               rw [up_eq] at b
               omega
             · intro q a b hq
               rw [up_at hq, eo 102 (by omega)]
               refine ⟨rfl, fun j x y => ?_⟩
               rw [up_ne (show (103 : Int) ≠ 102 by decide), eo 103 (by omega)])
      · skip
        rw [hv1, hw9]
        clear hv1 hw9 v1 w9
        dsimp only [Option.toList, List.cons_append, List.nil_append, List.append_nil]
        refine wp_if_ne (pc' := 7) (pt := 9) rfl rfl rfl (fun q_109 => absurd q_109 (by decide)) (fun q_109 => ?_)
        refine wp_iconst (a := -1) (pc' := 8) rfl rfl rfl ?_
        refine wp_ret rfl rfl rfl ?_
        first
        | (exfalso; omega)
        | exact ⟨rfl, rfl, hI⟩
        | exact ⟨rfl, by rw [hw9, up_ne (by decide), up_ne (by decide)], by rw [hw9, hw1]; exact refW_inv hI (by decide)⟩
        | (refine ⟨rfl, by rw [up_ne (by decide)], hI.rows hbr.1 hbr.2 (w' := up w1 102 r (-1)) ?_ ?_ ⟨?_, ?_, ?_⟩ ?_⟩
           · rw [hw1]
             exact ((SameF.rf w _ _).put (Or.inr (by simp))).put (Or.inl (by simp))
           · rw [up_ne (by decide), up_ne (by decide), eo 0 (by omega), eo 100 (by omega)]
             exact hITo
           · rw [up_eq, up_ne (by omega), hw1, up_eq]
           · rw [up_eq]
             omega
           · intro j a b
             rw [up_eq] at b
             omega
           · intro q a b hq
             rw [up_at hq, eo 102 (by omega)]
             refine ⟨rfl, fun j x y => ?_⟩
             rw [up_ne (show (103 : Int) ≠ 102 by decide), eo 103 (by omega)])
  · skip
    rw [hv1, hw9]
    clear hv1 hw9 v1 w9
    dsimp only [Option.toList, List.cons_append, List.nil_append, List.append_nil]
    refine wp_if_ne (pc' := 7) (pt := 9) rfl rfl rfl (fun q_110 => absurd q_110 (by decide)) (fun q_110 => ?_)
    refine wp_iconst (a := -1) (pc' := 8) rfl rfl rfl ?_
    refine wp_ret rfl rfl rfl ?_
    refine ⟨_, rfl, ?_, ?_⟩
    · first | exact e2 | rfl
    refine wp_iload_n (pc' := 1) rfl rfl rfl ?_
    refine wp_call (pc' := 4) rfl rfl rfl rfl rfl ⟨Nat.le_of_ble_eq_true rfl, Nat.le_of_ble_eq_true rfl, Nat.le_of_ble_eq_true rfl, Nat.le_of_ble_eq_true rfl, Nat.le_of_ble_eq_true rfl⟩ rfl (c_Mod_isRow) ?_
    rintro v1 w9 ⟨hw9, ⟨hv1, hb1⟩ | ⟨hv1, hb1⟩⟩
    · skip
      rw [hv1, hw9]
      clear hv1 hw9 v1 w9
      dsimp only [Option.toList, List.cons_append, List.nil_append, List.append_nil]
      refine wp_if_ne (pc' := 7) (pt := 9) rfl rfl rfl (fun q_161 => ?_) (fun q_161 => absurd (by decide) q_161)
      refine wp_aload_n (pc' := 10) rfl rfl rfl (by decide) ?_
      refine wp_getR (r' := 102) (ci := 10) (k0 := 5) (pc' := 13) rfl rfl (by decide) (by first | assumption | rfl) (hT.get 100 rfl) ?_
      refine wp_iload_n (pc' := 14) rfl rfl rfl ?_
      refine wp_iaload (pc' := 15) rfl rfl (by first | assumption | rfl) (by omega) ?_
      refine wp_if_ge (pc' := 18) (pt := 24) rfl rfl rfl (fun q_162 => ?_) (fun q_162 => ?_)
      · skip
        refine wp_aload_n (pc' := 25) rfl rfl rfl (by decide) ?_
        refine wp_getR (r' := 102) (ci := 10) (k0 := 5) (pc' := 28) rfl rfl (by decide) (by first | assumption | rfl) (hT.get 100 rfl) ?_
        refine wp_iload_n (pc' := 29) rfl rfl rfl ?_
        refine wp_iconst (a := -1) (pc' := 30) rfl rfl rfl ?_
        refine wp_iastore (pc' := 31) rfl rfl (by first | assumption | rfl) (by omega) ?_
        refine wp_iconst (a := 1) (pc' := 32) rfl rfl rfl ?_
        refine wp_ret rfl rfl rfl ?_
        first
        | (exfalso; omega)
        | exact ⟨rfl, rfl, hI⟩
        | exact ⟨rfl, by rw [hw9, up_ne (by decide), up_ne (by decide)], by rw [hw9, hw1]; exact refW_inv hI (by decide)⟩
        | (refine ⟨rfl, by rw [up_ne (by decide)], hI.rows hbr.1 hbr.2 (w' := up w1 102 r (-1)) ?_ ?_ ⟨?_, ?_, ?_⟩ ?_⟩
           · rw [hw1]
             exact ((SameF.rf w _ _).put (Or.inr (by simp))).put (Or.inl (by simp))
           · rw [up_ne (by decide), up_ne (by decide), eo 0 (by omega), eo 100 (by omega)]
             exact hITo
           · rw [up_eq, up_ne (by omega), hw1, up_eq]
           · rw [up_eq]
             omega
           · intro j a b
             rw [up_eq] at b
             omega
           · intro q a b hq
             rw [up_at hq, eo 102 (by omega)]
             refine ⟨rfl, fun j x y => ?_⟩
             rw [up_ne (show (103 : Int) ≠ 102 by decide), eo 103 (by omega)])
      · skip
        refine wp_aload_n (pc' := 19) rfl rfl rfl (by decide) ?_
        refine wp_iconst (a := 1) (pc' := 20) rfl rfl rfl ?_
        refine wp_call (pc' := 23) rfl rfl rfl rfl rfl ⟨Nat.le_of_ble_eq_true rfl, Nat.le_of_ble_eq_true rfl, Nat.le_of_ble_eq_true rfl, Nat.le_of_ble_eq_true rfl, Nat.le_of_ble_eq_true rfl⟩ rfl (c_Mod_meets hT (by decide)) ?_
        rintro v1 w9 ⟨hv1, hw9⟩
        rw [hv1]
        clear hv1 v1
        dsimp only [Option.toList, List.cons_append, List.nil_append, List.append_nil]
        refine wp_ret rfl rfl rfl ?_
        first
        | (exfalso; omega)
        | exact ⟨rfl, rfl, hI⟩
        | exact ⟨rfl, by rw [hw9, up_ne (by decide), up_ne (by decide)], by rw [hw9, hw1]; exact refW_inv hI (by decide)⟩
        | (refine ⟨rfl, by rw [up_ne (by decide)], hI.rows hbr.1 hbr.2 (w' := up w1 102 r (-1)) ?_ ?_ ⟨?_, ?_, ?_⟩ ?_⟩
           · rw [hw1]
             exact ((SameF.rf w _ _).put (Or.inr (by simp))).put (Or.inl (by simp))
           · rw [up_ne (by decide), up_ne (by decide), eo 0 (by omega), eo 100 (by omega)]
             exact hITo
           · rw [up_eq, up_ne (by omega), hw1, up_eq]
           · rw [up_eq]
             omega
           · intro j a b
             rw [up_eq] at b
             omega
           · intro q a b hq
             rw [up_at hq, eo 102 (by omega)]
             refine ⟨rfl, fun j x y => ?_⟩
             rw [up_ne (show (103 : Int) ≠ 102 by decide), eo 103 (by omega)])
    · skip
      rw [hv1, hw9]
      clear hv1 hw9 v1 w9
      dsimp only [Option.toList, List.cons_append, List.nil_append, List.append_nil]
      refine wp_if_ne (pc' := 7) (pt := 9) rfl rfl rfl (fun q_163 => absurd q_163 (by decide)) (fun q_163 => ?_)
      refine wp_iconst (a := -1) (pc' := 8) rfl rfl rfl ?_
      refine wp_ret rfl rfl rfl ?_
      first
      | (exfalso; omega)
      | exact ⟨rfl, rfl, hI⟩
      | exact ⟨rfl, by rw [hw9, up_ne (by decide), up_ne (by decide)], by rw [hw9, hw1]; exact refW_inv hI (by decide)⟩
      | (refine ⟨rfl, by rw [up_ne (by decide)], hI.rows hbr.1 hbr.2 (w' := up w1 102 r (-1)) ?_ ?_ ⟨?_, ?_, ?_⟩ ?_⟩
         · rw [hw1]
           exact ((SameF.rf w _ _).put (Or.inr (by simp))).put (Or.inl (by simp))
         · rw [up_ne (by decide), up_ne (by decide), eo 0 (by omega), eo 100 (by omega)]
           exact hITo
         · rw [up_eq, up_ne (by omega), hw1, up_eq]
         · rw [up_eq]
           omega
         · intro j a b
           rw [up_eq] at b
           omega
         · intro q a b hq
           rw [up_at hq, eo 102 (by omega)]
           refine ⟨rfl, fun j x y => ?_⟩
           rw [up_ne (show (103 : Int) ≠ 102 by decide), eo 103 (by omega)])
