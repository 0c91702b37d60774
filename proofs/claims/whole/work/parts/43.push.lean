/-! push, year -/
theorem deed_end {w w1 w2 w3 : Hp} (hI : Inv w) (hn : w 3 2 ≠ 0) (hm : w 3 6 < 40) (hS1 : SameF w w1 [24, 25] (DQ (w 3 6))) (hx : DX w w1) (hS2 : SameF w1 w2 [114] [(100, 23)]) (hg : ∀ j : Int, 0 ≤ j → j < 9 → w2 114 (9 * w1 100 23 + j) = w1 109 j) (ho : ∀ z : Int, z < 9 * w1 100 23 → w2 114 z = w1 114 z) (h23 : w2 100 23 = w1 100 23 + 1) (hS3 : SameF w2 w3 [113] [(109, 0), (109, 1), (109, 2)]) (he : w1 3 3 = w3 109 0 ∧ w1 3 4 = w3 109 1 ∧ w1 3 5 = w3 109 2) (hv : Cel (w 3 0) (w 3 1) (w1 3 3) ∧ (0 ≤ w1 3 4 ∧ w1 3 4 ≤ 4) ∧ (0 ≤ w1 3 5 ∧ w1 3 5 ≤ w 3 6 + 1)) : w3 (-2) = w1 (-2) ∧ Inv w3 := by
  obtain ⟨hn25, b11, b12, b10, hn6, hem, m0, m1, m2, m23, hyr, hdd, hpre⟩ := hI.base
  have er : ∀ q : Int, 100 ≤ q → w1 q = w q := fun q hq => hS1.cell q (by simp; omega) (by simp [DQ]; omega)
  have el : ∀ q : Int, q < 100 → w3 q = w1 q := fun q hq => (hS3.cell q (by simp; omega) (by simp; omega)).trans (hS2.cell q (by simp; omega) (by simp; omega))
  have e23 : w1 100 23 = w 3 6 := by rw [er 100 (by decide), m23]
  have e14 : w3 114 = w2 114 := hS3.cell 114 (by decide) (by decide)
  rw [e23] at hg ho h23
  obtain ⟨x7, x8, x9, x10, x36⟩ := hx
  refine ⟨el (-2) (by decide), hI.deed hn hm ?_ ⟨by rw [el 7 (by decide)]; exact x7, by rw [el 8 (by decide)]; exact x8, by rw [el 9 (by decide)]; exact x9, by rw [el 10 (by decide)]; exact x10, by rw [el 3 (by decide)]; exact x36⟩ ⟨fun j a b => by rw [e14, hg j a b, er 109 (by decide)], fun z hz => by rw [e14, ho z hz, er 114 (by decide)], by rw [hS3 100 23 (by decide) (by decide), h23]⟩ ⟨by rw [el 3 (by decide)]; exact he.1, by rw [el 3 (by decide)]; exact he.2.1, by rw [el 3 (by decide)]; exact he.2.2⟩ ⟨by rw [← he.1]; exact hv.1, by rw [← he.2.1]; exact hv.2.1, by rw [← he.2.2]; exact hv.2.2⟩⟩
  have a1 : SameF w w1 DL (DF (w 3 6)) := hS1.mono (fun r hr => by simp [DL] at hr ⊢; omega) (fun q hq => Or.inl (by simp [DQ] at hq; rcases hq with rfl | rfl | rfl | rfl | rfl | rfl | rfl | rfl | rfl <;> simp [DF]))
  have a2 : SameF w1 w2 DL (DF (w 3 6)) := hS2.mono (fun r hr => by simp [DL] at hr ⊢; omega) (fun q hq => Or.inl (by simp at hq; rw [hq]; simp [DF]))
  have a3 : SameF w2 w3 DL (DF (w 3 6)) := hS3.mono (fun r hr => by simp [DL] at hr ⊢; omega) (fun q hq => Or.inl (by simp at hq; rcases hq with rfl | rfl | rfl <;> simp [DF]))
  exact (a1.tr a2).tr a3
set_option maxRecDepth 20000 in
set_option maxHeartbeats 4000000 in
theorem p_push {w : Hp} {d : Nat} {way : Int} (hI : Inv w) : WP SH (d + 9) 94 0 [some (vR 0), some (vI way)] [] w (fun v0 w1 => ∃ a, v0 = some (vI a) ∧ w1 (-2) = w (-2) ∧ WP SH (d + 9) 192 0 [some (vR 100), some (vI way)] [] w1 (fun v2 w2 => v2 = some (vI a) ∧ w2 (-2) = w1 (-2) ∧ Inv w2)) := by
  obtain ⟨hT, hRO, hIF, hITo, hIR, hIT, hIL, hIK⟩ := id hI
  obtain ⟨hn25, b11, b12, b10, hn6, hem, m0, m1, m2, m23, hyr, hdd, hpre⟩ := hI.base
  have hmm : w 100 11 * w 100 12 = w 3 0 * w 3 1 := by rw [b11, b12]
  refine wp_iload_n (pc' := 1) rfl rfl rfl ?_
  refine wp_iconst (a := 1) (pc' := 2) rfl rfl rfl ?_
  refine wp_icmp_lt (pc' := 5) (pt := 10) rfl rfl rfl (fun q_1 => ?_) (fun q_1 => ?_)
  · skip
    refine wp_iconst (a := -1) (pc' := 11) rfl rfl rfl ?_
    refine wp_ret rfl rfl rfl ?_
    refine ⟨_, rfl, ?_, ?_⟩
    · rfl
    refine wp_iload_n (pc' := 1) rfl rfl rfl ?_
    refine wp_iconst (a := 1) (pc' := 2) rfl rfl rfl ?_
    refine wp_iconst (a := 4) (pc' := 3) rfl rfl rfl ?_
    refine wp_call (pc' := 6) rfl rfl rfl rfl rfl ⟨Nat.le_of_ble_eq_true rfl, Nat.le_of_ble_eq_true rfl, Nat.le_of_ble_eq_true rfl, Nat.le_of_ble_eq_true rfl, Nat.le_of_ble_eq_true rfl⟩ rfl (c_Mod_in) ?_
    rintro v1 w9 ⟨hw9, ⟨hv1, hin⟩ | ⟨hv1, hin⟩⟩
    · skip
      rw [hv1, hw9]
      clear hv1 hw9 v1 w9
      dsimp only [Option.toList, List.cons_append, List.nil_append, List.append_nil]
      refine wp_if_ne (pc' := 9) (pt := 11) rfl rfl rfl (fun q_52 => ?_) (fun q_52 => absurd (by decide) q_52)
      refine wp_aload_n (pc' := 12) rfl rfl rfl (by decide) ?_
      refine wp_getI (ci := 10) (k0 := 10) (pc' := 15) rfl rfl (by decide) (by first | assumption | rfl) ?_
      refine wp_if_eq (pc' := 18) (pt := 32) rfl rfl rfl (fun q_53 => ?_) (fun q_53 => ?_)
      · skip
        refine wp_bipush (a := -4) (pc' := 34) rfl rfl rfl ?_
        refine wp_ret rfl rfl rfl ?_
        first
        | (exfalso; omega)
        | exact ⟨rfl, rfl, hI⟩
        | (have hed := deed_end (w3 := up (up w2 109 0 (sBeside (w 3 0) (w 3 1) (w 3 3) way)) 109 1 0) hI (by omega) (by omega) hS1 hX1 hS2 hg2 ho2 h23 (((SameF.rf _ _ _).put (Or.inr (by decide))).put (Or.inr (by decide))) ⟨by rw [up_at (by decide), up_eq, y3, if_neg hbn], by rw [up_eq, y4], by rw [up_at (by decide), up_at (by decide), g109, er 109 (by decide), m2, y5]⟩ ⟨by rw [y3, if_neg hbn]; exact beside_cel hpr.1.1 hpr.2.2.1 hbn, by omega, by omega⟩
           exact ⟨by rw [up_at (by decide), up_eq, y3, if_neg hbn], hed.1, hed.2⟩)
      · skip
        exfalso; omega
    · skip
      rw [hv1, hw9]
      clear hv1 hw9 v1 w9
      dsimp only [Option.toList, List.cons_append, List.nil_append, List.append_nil]
      refine wp_if_ne (pc' := 9) (pt := 11) rfl rfl rfl (fun q_54 => absurd q_54 (by decide)) (fun q_54 => ?_)
      refine wp_iconst (a := -1) (pc' := 10) rfl rfl rfl ?_
      refine wp_ret rfl rfl rfl ?_
      first
      | (exfalso; omega)
      | exact ⟨rfl, rfl, hI⟩
      | (have hed := deed_end (w3 := up (up w2 109 0 (sBeside (w 3 0) (w 3 1) (w 3 3) way)) 109 1 0) hI (by omega) (by omega) hS1 hX1 hS2 hg2 ho2 h23 (((SameF.rf _ _ _).put (Or.inr (by decide))).put (Or.inr (by decide))) ⟨by rw [up_at (by decide), up_eq, y3, if_neg hbn], by rw [up_eq, y4], by rw [up_at (by decide), up_at (by decide), g109, er 109 (by decide), m2, y5]⟩ ⟨by rw [y3, if_neg hbn]; exact beside_cel hpr.1.1 hpr.2.2.1 hbn, by omega, by omega⟩
         exact ⟨by rw [up_at (by decide), up_eq, y3, if_neg hbn], hed.1, hed.2⟩)
  · skip
    refine wp_iload_n (pc' := 6) rfl rfl rfl ?_
    refine wp_iconst (a := 4) (pc' := 7) rfl rfl rfl ?_
    refine wp_icmp_le (pc' := 10) (pt := 12) rfl rfl rfl (fun q_55 => ?_) (fun q_55 => ?_)
    · skip
      refine wp_aload_n (pc' := 13) rfl rfl rfl (by decide) ?_
      refine wp_getR (r' := 3) (ci := 9) (k0 := 2) (pc' := 16) rfl rfl (by decide) (by first | assumption | rfl) (hT.get 2 rfl) ?_
      refine wp_call (pc' := 19) rfl rfl rfl rfl rfl ⟨Nat.le_of_ble_eq_true rfl, Nat.le_of_ble_eq_true rfl, Nat.le_of_ble_eq_true rfl, Nat.le_of_ble_eq_true rfl, Nat.le_of_ble_eq_true rfl⟩ rfl (c_Land_isEmpty_3) ?_
      rintro v1 w9 ⟨hw9, ⟨hv1, he⟩ | ⟨hv1, he⟩⟩
      · skip
        rw [hv1, hw9]
        clear hv1 hw9 v1 w9
        dsimp only [Option.toList, List.cons_append, List.nil_append, List.append_nil]
        refine wp_if_ne (pc' := 22) (pt := 41) rfl rfl rfl (fun q_56 => ?_) (fun q_56 => absurd (by decide) q_56)
        refine wp_bipush (a := -4) (pc' := 43) rfl rfl rfl ?_
        refine wp_ret rfl rfl rfl ?_
        refine ⟨_, rfl, ?_, ?_⟩
        · rfl
        refine wp_iload_n (pc' := 1) rfl rfl rfl ?_
        refine wp_iconst (a := 1) (pc' := 2) rfl rfl rfl ?_
        refine wp_iconst (a := 4) (pc' := 3) rfl rfl rfl ?_
        refine wp_call (pc' := 6) rfl rfl rfl rfl rfl ⟨Nat.le_of_ble_eq_true rfl, Nat.le_of_ble_eq_true rfl, Nat.le_of_ble_eq_true rfl, Nat.le_of_ble_eq_true rfl, Nat.le_of_ble_eq_true rfl⟩ rfl (c_Mod_in) ?_
        rintro v1 w9 ⟨hw9, ⟨hv1, hin⟩ | ⟨hv1, hin⟩⟩
        · skip
          rw [hv1, hw9]
          clear hv1 hw9 v1 w9
          dsimp only [Option.toList, List.cons_append, List.nil_append, List.append_nil]
          refine wp_if_ne (pc' := 9) (pt := 11) rfl rfl rfl (fun q_107 => ?_) (fun q_107 => absurd (by decide) q_107)
          refine wp_aload_n (pc' := 12) rfl rfl rfl (by decide) ?_
          refine wp_getI (ci := 10) (k0 := 10) (pc' := 15) rfl rfl (by decide) (by first | assumption | rfl) ?_
          refine wp_if_eq (pc' := 18) (pt := 32) rfl rfl rfl (fun q_108 => ?_) (fun q_108 => ?_)
          · skip
            refine wp_bipush (a := -4) (pc' := 34) rfl rfl rfl ?_
            refine wp_ret rfl rfl rfl ?_
            first
            | (exfalso; omega)
            | exact ⟨rfl, rfl, hI⟩
            | (have hed := deed_end (w3 := up (up w2 109 0 (sBeside (w 3 0) (w 3 1) (w 3 3) way)) 109 1 0) hI (by omega) (by omega) hS1 hX1 hS2 hg2 ho2 h23 (((SameF.rf _ _ _).put (Or.inr (by decide))).put (Or.inr (by decide))) ⟨by rw [up_at (by decide), up_eq, y3, if_neg hbn], by rw [up_eq, y4], by rw [up_at (by decide), up_at (by decide), g109, er 109 (by decide), m2, y5]⟩ ⟨by rw [y3, if_neg hbn]; exact beside_cel hpr.1.1 hpr.2.2.1 hbn, by omega, by omega⟩
               exact ⟨by rw [up_at (by decide), up_eq, y3, if_neg hbn], hed.1, hed.2⟩)
          · skip
            exfalso; omega
        · skip
          rw [hv1, hw9]
          clear hv1 hw9 v1 w9
          dsimp only [Option.toList, List.cons_append, List.nil_append, List.append_nil]
          refine wp_if_ne (pc' := 9) (pt := 11) rfl rfl rfl (fun q_109 => absurd q_109 (by decide)) (fun q_109 => ?_)
          refine wp_iconst (a := -1) (pc' := 10) rfl rfl rfl ?_
          refine wp_ret rfl rfl rfl ?_
          first
          | (exfalso; omega)
          | exact ⟨rfl, rfl, hI⟩
          | (have hed := deed_end (w3 := up (up w2 109 0 (sBeside (w 3 0) (w 3 1) (w 3 3) way)) 109 1 0) hI (by omega) (by omega) hS1 hX1 hS2 hg2 ho2 h23 (((SameF.rf _ _ _).put (Or.inr (by decide))).put (Or.inr (by decide))) ⟨by rw [up_at (by decide), up_eq, y3, if_neg hbn], by rw [up_eq, y4], by rw [up_at (by decide), up_at (by decide), g109, er 109 (by decide), m2, y5]⟩ ⟨by rw [y3, if_neg hbn]; exact beside_cel hpr.1.1 hpr.2.2.1 hbn, by omega, by omega⟩
             exact ⟨by rw [up_at (by decide), up_eq, y3, if_neg hbn], hed.1, hed.2⟩)
      · skip
        rw [hv1, hw9]
        clear hv1 hw9 v1 w9
        have hpr := hpre (by omega)
        dsimp only [Option.toList, List.cons_append, List.nil_append, List.append_nil]
        refine wp_if_ne (pc' := 22) (pt := 41) rfl rfl rfl (fun q_110 => absurd q_110 (by decide)) (fun q_110 => ?_)
        refine wp_aload_n (pc' := 23) rfl rfl rfl (by decide) ?_
        refine wp_getR (r' := 3) (ci := 9) (k0 := 2) (pc' := 26) rfl rfl (by decide) (by first | assumption | rfl) (hT.get 2 rfl) ?_
        refine wp_aload_n (pc' := 27) rfl rfl rfl (by decide) ?_
        refine wp_getR (r' := 3) (ci := 9) (k0 := 2) (pc' := 30) rfl rfl (by decide) (by first | assumption | rfl) (hT.get 2 rfl) ?_
        refine wp_getI (ci := 3) (k0 := 3) (pc' := 33) rfl rfl (by decide) (by first | assumption | rfl) ?_
        refine wp_iload_n (pc' := 34) rfl rfl rfl ?_
        refine wp_call (pc' := 37) rfl rfl rfl rfl rfl ⟨Nat.le_of_ble_eq_true rfl, Nat.le_of_ble_eq_true rfl, Nat.le_of_ble_eq_true rfl, Nat.le_of_ble_eq_true rfl, Nat.le_of_ble_eq_true rfl⟩ rfl (c_Land_beside hpr.1.1 hpr.2.2.1) ?_
        intro v1 w9 hq1
        rw [hq1.1, hq1.2]
        clear hq1 v1 w9
        have hbg := beside_ge (way := way) hpr.1.1 hpr.2.2.1
        dsimp only [Option.toList, List.cons_append, List.nil_append, List.append_nil]
        refine wp_iconst (a := -1) (pc' := 38) rfl rfl rfl ?_
        refine wp_icmp_ne (pc' := 41) (pt := 44) rfl rfl rfl (fun q_111 => ?_) (fun q_111 => ?_)
        · skip
          refine wp_aload_n (pc' := 45) rfl rfl rfl (by decide) ?_
          refine wp_getR (r' := 3) (ci := 9) (k0 := 2) (pc' := 48) rfl rfl (by decide) (by first | assumption | rfl) (hT.get 2 rfl) ?_
          refine wp_getI (ci := 3) (k0 := 6) (pc' := 51) rfl rfl (by decide) (by first | assumption | rfl) ?_
          refine wp_bipush (a := 40) (pc' := 53) rfl rfl rfl ?_
          refine wp_icmp_lt (pc' := 56) (pt := 59) rfl rfl rfl (fun q_112 => ?_) (fun q_112 => ?_)
          · skip
            refine wp_aload_n (pc' := 60) rfl rfl rfl (by decide) ?_
            refine wp_getR (r' := 3) (ci := 9) (k0 := 2) (pc' := 63) rfl rfl (by decide) (by first | assumption | rfl) (hT.get 2 rfl) ?_
            refine wp_iload_n (pc' := 64) rfl rfl rfl ?_
            refine wp_call (pc' := 67) rfl rfl rfl rfl rfl ⟨Nat.le_of_ble_eq_true rfl, Nat.le_of_ble_eq_true rfl, Nat.le_of_ble_eq_true rfl, Nat.le_of_ble_eq_true rfl, Nat.le_of_ble_eq_true rfl⟩ rfl (c_Land_bePushed hT (by omega) hpr.1.1 hpr.2.2.1) ?_
            rintro v1 w1 ⟨hv1, hS0, hX1, y3, y4, y5⟩
            rw [hv1]
            clear hv1 v1
            have hS1 : SameF w w1 [24, 25] (DQ (w 3 6)) := hS0.mono (fun r hr => absurd hr (by simp)) (fun q hq => Or.inl hq)
            have hTw := hT
            have er : ∀ q : Int, 100 ≤ q → w1 q = w q := fun q hq => hS1.cell q (by simp; omega) (by simp [DQ]; omega)
            have f10 : w1 100 10 = w 3 2 := by rw [er 100 (by decide), b10]
            have f23 : w1 100 23 = w 3 6 := by rw [er 100 (by decide), m23]
            have hp3 : MdOK w1 := by
              unfold MdOK
              rw [er 100 (by decide), er 107 (by decide), er 108 (by decide), er 109 (by decide)]
              exact hpr.2.1
            have hx3 : Cel (w1 100 11) (w1 100 12) (w1 109 0) := by rw [er 100 (by decide), er 109 (by decide), b11, b12, m0]; exact hpr.2.2.1
            have hT : Stc w1 := hT.sameF (L := [7, 8, 9, 10, 11, 24, 25]) (F := [(3, 3), (3, 4), (3, 5), (3, 6)]) (hS1.mono (fun r hr => by simp at hr ⊢; omega) (fun q hq => by simp [DQ] at hq; rcases hq with rfl | rfl | rfl | rfl | rfl | rfl | rfl | rfl | rfl <;> simp)) (by decide)
            skip
            have hbn : (sBeside (w 3 0) (w 3 1) (w 3 3) way) ≠ -1 := by omega
            dsimp only [Option.toList, List.cons_append, List.nil_append, List.append_nil]
            refine wp_aload_n (pc' := 68) rfl rfl rfl (by decide) ?_
            refine wp_getR (r' := 3) (ci := 9) (k0 := 2) (pc' := 71) rfl rfl (by decide) (by first | assumption | rfl) (hT.get 2 rfl) ?_
            refine wp_getI (ci := 3) (k0 := 3) (pc' := 74) rfl rfl (by decide) (by first | assumption | rfl) ?_
            refine wp_ret rfl rfl rfl ?_
            refine ⟨_, rfl, ?_, ?_⟩
            · exact hS1.cell (-2) (by decide) (by simp [DQ])
            refine wp_iload_n (pc' := 1) rfl rfl rfl ?_
            refine wp_iconst (a := 1) (pc' := 2) rfl rfl rfl ?_
            refine wp_iconst (a := 4) (pc' := 3) rfl rfl rfl ?_
            refine wp_call (pc' := 6) rfl rfl rfl rfl rfl ⟨Nat.le_of_ble_eq_true rfl, Nat.le_of_ble_eq_true rfl, Nat.le_of_ble_eq_true rfl, Nat.le_of_ble_eq_true rfl, Nat.le_of_ble_eq_true rfl⟩ rfl (c_Mod_in) ?_
            rintro v1 w9 ⟨hw9, ⟨hv1, hin⟩ | ⟨hv1, hin⟩⟩
            · skip
              rw [hv1, hw9]
              clear hv1 hw9 v1 w9
              dsimp only [Option.toList, List.cons_append, List.nil_append, List.append_nil]
              refine wp_if_ne (pc' := 9) (pt := 11) rfl rfl rfl (fun q_163 => ?_) (fun q_163 => absurd (by decide) q_163)
              refine wp_aload_n (pc' := 12) rfl rfl rfl (by decide) ?_
              refine wp_getI (ci := 10) (k0 := 10) (pc' := 15) rfl rfl (by decide) (by first | assumption | rfl) ?_
              refine wp_if_eq (pc' := 18) (pt := 32) rfl rfl rfl (fun q_164 => ?_) (fun q_164 => ?_)
              · skip
                refine wp_bipush (a := -4) (pc' := 34) rfl rfl rfl ?_
                refine wp_ret rfl rfl rfl ?_
                first
                | (exfalso; omega)
                | exact ⟨rfl, rfl, hI⟩
                | (have hed := deed_end (w3 := up (up w2 109 0 (sBeside (w 3 0) (w 3 1) (w 3 3) way)) 109 1 0) hI (by omega) (by omega) hS1 hX1 hS2 hg2 ho2 h23 (((SameF.rf _ _ _).put (Or.inr (by decide))).put (Or.inr (by decide))) ⟨by rw [up_at (by decide), up_eq, y3, if_neg hbn], by rw [up_eq, y4], by rw [up_at (by decide), up_at (by decide), g109, er 109 (by decide), m2, y5]⟩ ⟨by rw [y3, if_neg hbn]; exact beside_cel hpr.1.1 hpr.2.2.1 hbn, by omega, by omega⟩
                   exact ⟨by rw [up_at (by decide), up_eq, y3, if_neg hbn], hed.1, hed.2⟩)
              · skip
                refine wp_aload_n (pc' := 19) rfl rfl rfl (by decide) ?_
                refine wp_aload_n (pc' := 20) rfl rfl rfl (by decide) ?_
                refine wp_getR (r' := 109) (ci := 10) (k0 := 15) (pc' := 23) rfl rfl (by decide) (by first | assumption | rfl) (hT.get 107 rfl) ?_
                refine wp_iconst (a := 0) (pc' := 24) rfl rfl rfl ?_
                refine wp_iaload (pc' := 25) rfl rfl (by first | assumption | rfl) (by omega) ?_
                refine wp_iload_n (pc' := 26) rfl rfl rfl ?_
                refine wp_call (pc' := 29) rfl rfl rfl rfl rfl ⟨Nat.le_of_ble_eq_true rfl, Nat.le_of_ble_eq_true rfl, Nat.le_of_ble_eq_true rfl, Nat.le_of_ble_eq_true rfl, Nat.le_of_ble_eq_true rfl⟩ rfl (c_Mod_beside hp3.1 (by omega) hx3) ?_
                intro v1 w9 hq1
                rw [hq1.1, hq1.2]
                clear hq1 v1 w9
                rw [er 100 (by decide), er 109 (by decide), b11, b12, m0]
                dsimp only [Option.toList, List.cons_append, List.nil_append, List.append_nil]
                refine wp_if_ge (pc' := 32) (pt := 35) rfl rfl rfl (fun q_165 => ?_) (fun q_165 => ?_)
                · skip
                  refine wp_aload_n (pc' := 36) rfl rfl rfl (by decide) ?_
                  refine wp_getI (ci := 10) (k0 := 23) (pc' := 39) rfl rfl (by decide) (by first | assumption | rfl) ?_
                  refine wp_bipush (a := 40) (pc' := 41) rfl rfl rfl ?_
                  refine wp_icmp_ne (pc' := 44) (pt := 47) rfl rfl rfl (fun q_166 => ?_) (fun q_166 => ?_)
                  · skip
                    refine wp_aload_n (pc' := 48) rfl rfl rfl (by decide) ?_
                    refine wp_call (pc' := 51) rfl rfl rfl rfl rfl ⟨Nat.le_of_ble_eq_true rfl, Nat.le_of_ble_eq_true rfl, Nat.le_of_ble_eq_true rfl, Nat.le_of_ble_eq_true rfl, Nat.le_of_ble_eq_true rfl⟩ rfl (c_Mod_remember hT (by omega)) ?_
                    rintro v1 w2 ⟨hv1, hS2, hg2, ho2, h23⟩
                    rw [hv1]
                    clear hv1 v1
                    have hT2 : Stc w2 := hT.sameF hS2 (by decide)
                    have hT := hT2
                    have hp2 : MdOK w2 := hp3.sameF hS2 (by decide) (by decide)
                    have g109 : w2 109 = w1 109 := hS2.cell 109 (by decide) (by decide)
                    have g11 : w2 100 11 = w1 100 11 := hS2 100 11 (by decide) (by decide)
                    have g12 : w2 100 12 = w1 100 12 := hS2 100 12 (by decide) (by decide)
                    have g10 : w2 100 10 = w1 100 10 := hS2 100 10 (by decide) (by decide)
                    have g7 : w2 107 = w1 107 := hS2.cell 107 (by decide) (by decide)
                    have g8 : w2 108 = w1 108 := hS2.cell 108 (by decide) (by decide)
                    have hx2 : Cel (w2 100 11) (w2 100 12) (w2 109 0) := by rw [g11, g12, g109]; exact hx3
                    dsimp only [Option.toList, List.cons_append, List.nil_append, List.append_nil]
                    refine wp_aload_n (pc' := 52) rfl rfl rfl (by decide) ?_
                    refine wp_getR (r' := 109) (ci := 10) (k0 := 15) (pc' := 55) rfl rfl (by decide) (by first | assumption | rfl) (hT.get 107 rfl) ?_
                    refine wp_iconst (a := 0) (pc' := 56) rfl rfl rfl ?_
                    refine wp_aload_n (pc' := 57) rfl rfl rfl (by decide) ?_
                    refine wp_aload_n (pc' := 58) rfl rfl rfl (by decide) ?_
                    refine wp_getR (r' := 109) (ci := 10) (k0 := 15) (pc' := 61) rfl rfl (by decide) (by first | assumption | rfl) (hT.get 107 rfl) ?_
                    refine wp_iconst (a := 0) (pc' := 62) rfl rfl rfl ?_
                    refine wp_iaload (pc' := 63) rfl rfl (by first | assumption | rfl) (by omega) ?_
                    refine wp_iload_n (pc' := 64) rfl rfl rfl ?_
                    refine wp_call (pc' := 67) rfl rfl rfl rfl rfl ⟨Nat.le_of_ble_eq_true rfl, Nat.le_of_ble_eq_true rfl, Nat.le_of_ble_eq_true rfl, Nat.le_of_ble_eq_true rfl, Nat.le_of_ble_eq_true rfl⟩ rfl (c_Mod_beside hp2.1 (by omega) hx2) ?_
                    intro v1 w9 hq1
                    rw [hq1.1, hq1.2]
                    clear hq1 v1 w9
                    rw [g11, g12, g109, er 100 (by decide), er 109 (by decide), b11, b12, m0]
                    dsimp only [Option.toList, List.cons_append, List.nil_append, List.append_nil]
                    skip
                    refine wp_iastore (pc' := 68) rfl rfl (by first | assumption | rfl) (by omega) ?_
                    refine wp_aload_n (pc' := 69) rfl rfl rfl (by decide) ?_
                    refine wp_getR (r' := 109) (ci := 10) (k0 := 15) (pc' := 72) rfl rfl (by decide) (by first | assumption | rfl) (hT.get 107 rfl) ?_
                    refine wp_iconst (a := 1) (pc' := 73) rfl rfl rfl ?_
                    refine wp_iconst (a := 0) (pc' := 74) rfl rfl rfl ?_
                    have hT := hT.putA (r := 109) (i := 0) (x := (sBeside (w 3 0) (w 3 1) (w 3 3) way)) (by decide)
                    refine wp_iastore (pc' := 75) rfl rfl (by first | assumption | rfl) (by omega) ?_
                    refine wp_aload_n (pc' := 76) rfl rfl rfl (by decide) ?_
                    refine wp_getR (r' := 109) (ci := 10) (k0 := 15) (pc' := 79) rfl rfl (by decide) (by first | assumption | rfl) (hT.get 107 rfl) ?_
                    refine wp_iconst (a := 0) (pc' := 80) rfl rfl rfl ?_
                    refine wp_iaload (pc' := 81) rfl rfl (by first | assumption | rfl) (by omega) ?_
                    refine wp_ret rfl rfl rfl ?_
                    first
                    | (exfalso; omega)
                    | exact ⟨rfl, rfl, hI⟩
                    | (have hed := deed_end (w3 := up (up w2 109 0 (sBeside (w 3 0) (w 3 1) (w 3 3) way)) 109 1 0) hI (by omega) (by omega) hS1 hX1 hS2 hg2 ho2 h23 (((SameF.rf _ _ _).put (Or.inr (by decide))).put (Or.inr (by decide))) ⟨by rw [up_at (by decide), up_eq, y3, if_neg hbn], by rw [up_eq, y4], by rw [up_at (by decide), up_at (by decide), g109, er 109 (by decide), m2, y5]⟩ ⟨by rw [y3, if_neg hbn]; exact beside_cel hpr.1.1 hpr.2.2.1 hbn, by omega, by omega⟩
                       exact ⟨by rw [up_at (by decide), up_eq, y3, if_neg hbn], hed.1, hed.2⟩)
                  · skip
                    refine wp_bipush (a := -2) (pc' := 46) rfl rfl rfl ?_
                    refine wp_ret rfl rfl rfl ?_
                    first
                    | (exfalso; omega)
                    | exact ⟨rfl, rfl, hI⟩
                    | (have hed := deed_end (w3 := up (up w2 109 0 (sBeside (w 3 0) (w 3 1) (w 3 3) way)) 109 1 0) hI (by omega) (by omega) hS1 hX1 hS2 hg2 ho2 h23 (((SameF.rf _ _ _).put (Or.inr (by decide))).put (Or.inr (by decide))) ⟨by rw [up_at (by decide), up_eq, y3, if_neg hbn], by rw [up_eq, y4], by rw [up_at (by decide), up_at (by decide), g109, er 109 (by decide), m2, y5]⟩ ⟨by rw [y3, if_neg hbn]; exact beside_cel hpr.1.1 hpr.2.2.1 hbn, by omega, by omega⟩
                       exact ⟨by rw [up_at (by decide), up_eq, y3, if_neg hbn], hed.1, hed.2⟩)
                · skip
                  refine wp_bipush (a := -4) (pc' := 34) rfl rfl rfl ?_
                  refine wp_ret rfl rfl rfl ?_
                  first
                  | (exfalso; omega)
                  | exact ⟨rfl, rfl, hI⟩
                  | (have hed := deed_end (w3 := up (up w2 109 0 (sBeside (w 3 0) (w 3 1) (w 3 3) way)) 109 1 0) hI (by omega) (by omega) hS1 hX1 hS2 hg2 ho2 h23 (((SameF.rf _ _ _).put (Or.inr (by decide))).put (Or.inr (by decide))) ⟨by rw [up_at (by decide), up_eq, y3, if_neg hbn], by rw [up_eq, y4], by rw [up_at (by decide), up_at (by decide), g109, er 109 (by decide), m2, y5]⟩ ⟨by rw [y3, if_neg hbn]; exact beside_cel hpr.1.1 hpr.2.2.1 hbn, by omega, by omega⟩
                     exact ⟨by rw [up_at (by decide), up_eq, y3, if_neg hbn], hed.1, hed.2⟩)
            · skip
              rw [hv1, hw9]
              clear hv1 hw9 v1 w9
              dsimp only [Option.toList, List.cons_append, List.nil_append, List.append_nil]
              refine wp_if_ne (pc' := 9) (pt := 11) rfl rfl rfl (fun q_167 => absurd q_167 (by decide)) (fun q_167 => ?_)
              refine wp_iconst (a := -1) (pc' := 10) rfl rfl rfl ?_
              refine wp_ret rfl rfl rfl ?_
              first
              | (exfalso; omega)
              | exact ⟨rfl, rfl, hI⟩
              | (have hed := deed_end (w3 := up (up w2 109 0 (sBeside (w 3 0) (w 3 1) (w 3 3) way)) 109 1 0) hI (by omega) (by omega) hS1 hX1 hS2 hg2 ho2 h23 (((SameF.rf _ _ _).put (Or.inr (by decide))).put (Or.inr (by decide))) ⟨by rw [up_at (by decide), up_eq, y3, if_neg hbn], by rw [up_eq, y4], by rw [up_at (by decide), up_at (by decide), g109, er 109 (by decide), m2, y5]⟩ ⟨by rw [y3, if_neg hbn]; exact beside_cel hpr.1.1 hpr.2.2.1 hbn, by omega, by omega⟩
                 exact ⟨by rw [up_at (by decide), up_eq, y3, if_neg hbn], hed.1, hed.2⟩)
          · skip
            refine wp_bipush (a := -2) (pc' := 58) rfl rfl rfl ?_
            refine wp_ret rfl rfl rfl ?_
            refine ⟨_, rfl, ?_, ?_⟩
            · rfl
            refine wp_iload_n (pc' := 1) rfl rfl rfl ?_
            refine wp_iconst (a := 1) (pc' := 2) rfl rfl rfl ?_
            refine wp_iconst (a := 4) (pc' := 3) rfl rfl rfl ?_
            refine wp_call (pc' := 6) rfl rfl rfl rfl rfl ⟨Nat.le_of_ble_eq_true rfl, Nat.le_of_ble_eq_true rfl, Nat.le_of_ble_eq_true rfl, Nat.le_of_ble_eq_true rfl, Nat.le_of_ble_eq_true rfl⟩ rfl (c_Mod_in) ?_
            rintro v1 w9 ⟨hw9, ⟨hv1, hin⟩ | ⟨hv1, hin⟩⟩
            · skip
              rw [hv1, hw9]
              clear hv1 hw9 v1 w9
              dsimp only [Option.toList, List.cons_append, List.nil_append, List.append_nil]
              refine wp_if_ne (pc' := 9) (pt := 11) rfl rfl rfl (fun q_218 => ?_) (fun q_218 => absurd (by decide) q_218)
              refine wp_aload_n (pc' := 12) rfl rfl rfl (by decide) ?_
              refine wp_getI (ci := 10) (k0 := 10) (pc' := 15) rfl rfl (by decide) (by first | assumption | rfl) ?_
              refine wp_if_eq (pc' := 18) (pt := 32) rfl rfl rfl (fun q_219 => ?_) (fun q_219 => ?_)
              · skip
                refine wp_bipush (a := -4) (pc' := 34) rfl rfl rfl ?_
                refine wp_ret rfl rfl rfl ?_
                first
                | (exfalso; omega)
                | exact ⟨rfl, rfl, hI⟩
                | (have hed := deed_end (w3 := up (up w2 109 0 (sBeside (w 3 0) (w 3 1) (w 3 3) way)) 109 1 0) hI (by omega) (by omega) hS1 hX1 hS2 hg2 ho2 h23 (((SameF.rf _ _ _).put (Or.inr (by decide))).put (Or.inr (by decide))) ⟨by rw [up_at (by decide), up_eq, y3, if_neg hbn], by rw [up_eq, y4], by rw [up_at (by decide), up_at (by decide), g109, er 109 (by decide), m2, y5]⟩ ⟨by rw [y3, if_neg hbn]; exact beside_cel hpr.1.1 hpr.2.2.1 hbn, by omega, by omega⟩
                   exact ⟨by rw [up_at (by decide), up_eq, y3, if_neg hbn], hed.1, hed.2⟩)
              · skip
                refine wp_aload_n (pc' := 19) rfl rfl rfl (by decide) ?_
                refine wp_aload_n (pc' := 20) rfl rfl rfl (by decide) ?_
                refine wp_getR (r' := 109) (ci := 10) (k0 := 15) (pc' := 23) rfl rfl (by decide) (by first | assumption | rfl) (hT.get 107 rfl) ?_
                refine wp_iconst (a := 0) (pc' := 24) rfl rfl rfl ?_
                refine wp_iaload (pc' := 25) rfl rfl (by first | assumption | rfl) (by omega) ?_
                refine wp_iload_n (pc' := 26) rfl rfl rfl ?_
                refine wp_call (pc' := 29) rfl rfl rfl rfl rfl ⟨Nat.le_of_ble_eq_true rfl, Nat.le_of_ble_eq_true rfl, Nat.le_of_ble_eq_true rfl, Nat.le_of_ble_eq_true rfl, Nat.le_of_ble_eq_true rfl⟩ rfl (c_Mod_beside hpr.2.1.1 (by omega) (by rw [b11, b12, m0]; exact hpr.2.2.1)) ?_
                intro v1 w9 hq1
                rw [hq1.1, hq1.2]
                clear hq1 v1 w9
                rw [b11, b12, m0]
                dsimp only [Option.toList, List.cons_append, List.nil_append, List.append_nil]
                refine wp_if_ge (pc' := 32) (pt := 35) rfl rfl rfl (fun q_220 => ?_) (fun q_220 => ?_)
                · skip
                  refine wp_aload_n (pc' := 36) rfl rfl rfl (by decide) ?_
                  refine wp_getI (ci := 10) (k0 := 23) (pc' := 39) rfl rfl (by decide) (by first | assumption | rfl) ?_
                  refine wp_bipush (a := 40) (pc' := 41) rfl rfl rfl ?_
                  refine wp_icmp_ne (pc' := 44) (pt := 47) rfl rfl rfl (fun q_221 => ?_) (fun q_221 => ?_)
                  · skip
                    exfalso; omega
                  · skip
                    refine wp_bipush (a := -2) (pc' := 46) rfl rfl rfl ?_
                    refine wp_ret rfl rfl rfl ?_
                    first
                    | (exfalso; omega)
                    | exact ⟨rfl, rfl, hI⟩
                    | (have hed := deed_end (w3 := up (up w2 109 0 (sBeside (w 3 0) (w 3 1) (w 3 3) way)) 109 1 0) hI (by omega) (by omega) hS1 hX1 hS2 hg2 ho2 h23 (((SameF.rf _ _ _).put (Or.inr (by decide))).put (Or.inr (by decide))) ⟨by rw [up_at (by decide), up_eq, y3, if_neg hbn], by rw [up_eq, y4], by rw [up_at (by decide), up_at (by decide), g109, er 109 (by decide), m2, y5]⟩ ⟨by rw [y3, if_neg hbn]; exact beside_cel hpr.1.1 hpr.2.2.1 hbn, by omega, by omega⟩
                       exact ⟨by rw [up_at (by decide), up_eq, y3, if_neg hbn], hed.1, hed.2⟩)
                · skip
                  refine wp_bipush (a := -4) (pc' := 34) rfl rfl rfl ?_
                  refine wp_ret rfl rfl rfl ?_
                  first
                  | (exfalso; omega)
                  | exact ⟨rfl, rfl, hI⟩
                  | (have hed := deed_end (w3 := up (up w2 109 0 (sBeside (w 3 0) (w 3 1) (w 3 3) way)) 109 1 0) hI (by omega) (by omega) hS1 hX1 hS2 hg2 ho2 h23 (((SameF.rf _ _ _).put (Or.inr (by decide))).put (Or.inr (by decide))) ⟨by rw [up_at (by decide), up_eq, y3, if_neg hbn], by rw [up_eq, y4], by rw [up_at (by decide), up_at (by decide), g109, er 109 (by decide), m2, y5]⟩ ⟨by rw [y3, if_neg hbn]; exact beside_cel hpr.1.1 hpr.2.2.1 hbn, by omega, by omega⟩
                     exact ⟨by rw [up_at (by decide), up_eq, y3, if_neg hbn], hed.1, hed.2⟩)
            · skip
              rw [hv1, hw9]
              clear hv1 hw9 v1 w9
              dsimp only [Option.toList, List.cons_append, List.nil_append, List.append_nil]
              refine wp_if_ne (pc' := 9) (pt := 11) rfl rfl rfl (fun q_222 => absurd q_222 (by decide)) (fun q_222 => ?_)
              refine wp_iconst (a := -1) (pc' := 10) rfl rfl rfl ?_
              refine wp_ret rfl rfl rfl ?_
              first
              | (exfalso; omega)
              | exact ⟨rfl, rfl, hI⟩
              | (have hed := deed_end (w3 := up (up w2 109 0 (sBeside (w 3 0) (w 3 1) (w 3 3) way)) 109 1 0) hI (by omega) (by omega) hS1 hX1 hS2 hg2 ho2 h23 (((SameF.rf _ _ _).put (Or.inr (by decide))).put (Or.inr (by decide))) ⟨by rw [up_at (by decide), up_eq, y3, if_neg hbn], by rw [up_eq, y4], by rw [up_at (by decide), up_at (by decide), g109, er 109 (by decide), m2, y5]⟩ ⟨by rw [y3, if_neg hbn]; exact beside_cel hpr.1.1 hpr.2.2.1 hbn, by omega, by omega⟩
                 exact ⟨by rw [up_at (by decide), up_eq, y3, if_neg hbn], hed.1, hed.2⟩)
        · skip
          refine wp_bipush (a := -4) (pc' := 43) rfl rfl rfl ?_
          refine wp_ret rfl rfl rfl ?_
          refine ⟨_, rfl, ?_, ?_⟩
          · rfl
          refine wp_iload_n (pc' := 1) rfl rfl rfl ?_
          refine wp_iconst (a := 1) (pc' := 2) rfl rfl rfl ?_
          refine wp_iconst (a := 4) (pc' := 3) rfl rfl rfl ?_
          refine wp_call (pc' := 6) rfl rfl rfl rfl rfl ⟨Nat.le_of_ble_eq_true rfl, Nat.le_of_ble_eq_true rfl, Nat.le_of_ble_eq_true rfl, Nat.le_of_ble_eq_true rfl, Nat.le_of_ble_eq_true rfl⟩ rfl (c_Mod_in) ?_
          rintro v1 w9 ⟨hw9, ⟨hv1, hin⟩ | ⟨hv1, hin⟩⟩
          · skip
            rw [hv1, hw9]
            clear hv1 hw9 v1 w9
            dsimp only [Option.toList, List.cons_append, List.nil_append, List.append_nil]
            refine wp_if_ne (pc' := 9) (pt := 11) rfl rfl rfl (fun q_273 => ?_) (fun q_273 => absurd (by decide) q_273)
            refine wp_aload_n (pc' := 12) rfl rfl rfl (by decide) ?_
            refine wp_getI (ci := 10) (k0 := 10) (pc' := 15) rfl rfl (by decide) (by first | assumption | rfl) ?_
            refine wp_if_eq (pc' := 18) (pt := 32) rfl rfl rfl (fun q_274 => ?_) (fun q_274 => ?_)
            · skip
              refine wp_bipush (a := -4) (pc' := 34) rfl rfl rfl ?_
              refine wp_ret rfl rfl rfl ?_
              first
              | (exfalso; omega)
              | exact ⟨rfl, rfl, hI⟩
              | (have hed := deed_end (w3 := up (up w2 109 0 (sBeside (w 3 0) (w 3 1) (w 3 3) way)) 109 1 0) hI (by omega) (by omega) hS1 hX1 hS2 hg2 ho2 h23 (((SameF.rf _ _ _).put (Or.inr (by decide))).put (Or.inr (by decide))) ⟨by rw [up_at (by decide), up_eq, y3, if_neg hbn], by rw [up_eq, y4], by rw [up_at (by decide), up_at (by decide), g109, er 109 (by decide), m2, y5]⟩ ⟨by rw [y3, if_neg hbn]; exact beside_cel hpr.1.1 hpr.2.2.1 hbn, by omega, by omega⟩
                 exact ⟨by rw [up_at (by decide), up_eq, y3, if_neg hbn], hed.1, hed.2⟩)
            · skip
              refine wp_aload_n (pc' := 19) rfl rfl rfl (by decide) ?_
              refine wp_aload_n (pc' := 20) rfl rfl rfl (by decide) ?_
              refine wp_getR (r' := 109) (ci := 10) (k0 := 15) (pc' := 23) rfl rfl (by decide) (by first | assumption | rfl) (hT.get 107 rfl) ?_
              refine wp_iconst (a := 0) (pc' := 24) rfl rfl rfl ?_
              refine wp_iaload (pc' := 25) rfl rfl (by first | assumption | rfl) (by omega) ?_
              refine wp_iload_n (pc' := 26) rfl rfl rfl ?_
              refine wp_call (pc' := 29) rfl rfl rfl rfl rfl ⟨Nat.le_of_ble_eq_true rfl, Nat.le_of_ble_eq_true rfl, Nat.le_of_ble_eq_true rfl, Nat.le_of_ble_eq_true rfl, Nat.le_of_ble_eq_true rfl⟩ rfl (c_Mod_beside hpr.2.1.1 (by omega) (by rw [b11, b12, m0]; exact hpr.2.2.1)) ?_
              intro v1 w9 hq1
              rw [hq1.1, hq1.2]
              clear hq1 v1 w9
              rw [b11, b12, m0]
              dsimp only [Option.toList, List.cons_append, List.nil_append, List.append_nil]
              refine wp_if_ge (pc' := 32) (pt := 35) rfl rfl rfl (fun q_275 => ?_) (fun q_275 => ?_)
              · skip
                refine wp_aload_n (pc' := 36) rfl rfl rfl (by decide) ?_
                refine wp_getI (ci := 10) (k0 := 23) (pc' := 39) rfl rfl (by decide) (by first | assumption | rfl) ?_
                refine wp_bipush (a := 40) (pc' := 41) rfl rfl rfl ?_
                refine wp_icmp_ne (pc' := 44) (pt := 47) rfl rfl rfl (fun q_276 => ?_) (fun q_276 => ?_)
                · skip
                  exfalso; omega
                · skip
                  refine wp_bipush (a := -2) (pc' := 46) rfl rfl rfl ?_
                  refine wp_ret rfl rfl rfl ?_
                  first
                  | (exfalso; omega)
                  | exact ⟨rfl, rfl, hI⟩
                  | (have hed := deed_end (w3 := up (up w2 109 0 (sBeside (w 3 0) (w 3 1) (w 3 3) way)) 109 1 0) hI (by omega) (by omega) hS1 hX1 hS2 hg2 ho2 h23 (((SameF.rf _ _ _).put (Or.inr (by decide))).put (Or.inr (by decide))) ⟨by rw [up_at (by decide), up_eq, y3, if_neg hbn], by rw [up_eq, y4], by rw [up_at (by decide), up_at (by decide), g109, er 109 (by decide), m2, y5]⟩ ⟨by rw [y3, if_neg hbn]; exact beside_cel hpr.1.1 hpr.2.2.1 hbn, by omega, by omega⟩
                     exact ⟨by rw [up_at (by decide), up_eq, y3, if_neg hbn], hed.1, hed.2⟩)
              · skip
                refine wp_bipush (a := -4) (pc' := 34) rfl rfl rfl ?_
                refine wp_ret rfl rfl rfl ?_
                first
                | (exfalso; omega)
                | exact ⟨rfl, rfl, hI⟩
                | (have hed := deed_end (w3 := up (up w2 109 0 (sBeside (w 3 0) (w 3 1) (w 3 3) way)) 109 1 0) hI (by omega) (by omega) hS1 hX1 hS2 hg2 ho2 h23 (((SameF.rf _ _ _).put (Or.inr (by decide))).put (Or.inr (by decide))) ⟨by rw [up_at (by decide), up_eq, y3, if_neg hbn], by rw [up_eq, y4], by rw [up_at (by decide), up_at (by decide), g109, er 109 (by decide), m2, y5]⟩ ⟨by rw [y3, if_neg hbn]; exact beside_cel hpr.1.1 hpr.2.2.1 hbn, by omega, by omega⟩
                   exact ⟨by rw [up_at (by decide), up_eq, y3, if_neg hbn], hed.1, hed.2⟩)
          · skip
            rw [hv1, hw9]
            clear hv1 hw9 v1 w9
            dsimp only [Option.toList, List.cons_append, List.nil_append, List.append_nil]
            refine wp_if_ne (pc' := 9) (pt := 11) rfl rfl rfl (fun q_277 => absurd q_277 (by decide)) (fun q_277 => ?_)
            refine wp_iconst (a := -1) (pc' := 10) rfl rfl rfl ?_
            refine wp_ret rfl rfl rfl ?_
            first
            | (exfalso; omega)
            | exact ⟨rfl, rfl, hI⟩
            | (have hed := deed_end (w3 := up (up w2 109 0 (sBeside (w 3 0) (w 3 1) (w 3 3) way)) 109 1 0) hI (by omega) (by omega) hS1 hX1 hS2 hg2 ho2 h23 (((SameF.rf _ _ _).put (Or.inr (by decide))).put (Or.inr (by decide))) ⟨by rw [up_at (by decide), up_eq, y3, if_neg hbn], by rw [up_eq, y4], by rw [up_at (by decide), up_at (by decide), g109, er 109 (by decide), m2, y5]⟩ ⟨by rw [y3, if_neg hbn]; exact beside_cel hpr.1.1 hpr.2.2.1 hbn, by omega, by omega⟩
               exact ⟨by rw [up_at (by decide), up_eq, y3, if_neg hbn], hed.1, hed.2⟩)
    · skip
      refine wp_iconst (a := -1) (pc' := 11) rfl rfl rfl ?_
      refine wp_ret rfl rfl rfl ?_
      refine ⟨_, rfl, ?_, ?_⟩
      · rfl
      refine wp_iload_n (pc' := 1) rfl rfl rfl ?_
      refine wp_iconst (a := 1) (pc' := 2) rfl rfl rfl ?_
      refine wp_iconst (a := 4) (pc' := 3) rfl rfl rfl ?_
      refine wp_call (pc' := 6) rfl rfl rfl rfl rfl ⟨Nat.le_of_ble_eq_true rfl, Nat.le_of_ble_eq_true rfl, Nat.le_of_ble_eq_true rfl, Nat.le_of_ble_eq_true rfl, Nat.le_of_ble_eq_true rfl⟩ rfl (c_Mod_in) ?_
      rintro v1 w9 ⟨hw9, ⟨hv1, hin⟩ | ⟨hv1, hin⟩⟩
      · skip
        rw [hv1, hw9]
        clear hv1 hw9 v1 w9
        dsimp only [Option.toList, List.cons_append, List.nil_append, List.append_nil]
        refine wp_if_ne (pc' := 9) (pt := 11) rfl rfl rfl (fun q_328 => ?_) (fun q_328 => absurd (by decide) q_328)
        refine wp_aload_n (pc' := 12) rfl rfl rfl (by decide) ?_
        refine wp_getI (ci := 10) (k0 := 10) (pc' := 15) rfl rfl (by decide) (by first | assumption | rfl) ?_
        refine wp_if_eq (pc' := 18) (pt := 32) rfl rfl rfl (fun q_329 => ?_) (fun q_329 => ?_)
        · skip
          refine wp_bipush (a := -4) (pc' := 34) rfl rfl rfl ?_
          refine wp_ret rfl rfl rfl ?_
          first
          | (exfalso; omega)
          | exact ⟨rfl, rfl, hI⟩
          | (have hed := deed_end (w3 := up (up w2 109 0 (sBeside (w 3 0) (w 3 1) (w 3 3) way)) 109 1 0) hI (by omega) (by omega) hS1 hX1 hS2 hg2 ho2 h23 (((SameF.rf _ _ _).put (Or.inr (by decide))).put (Or.inr (by decide))) ⟨by rw [up_at (by decide), up_eq, y3, if_neg hbn], by rw [up_eq, y4], by rw [up_at (by decide), up_at (by decide), g109, er 109 (by decide), m2, y5]⟩ ⟨by rw [y3, if_neg hbn]; exact beside_cel hpr.1.1 hpr.2.2.1 hbn, by omega, by omega⟩
             exact ⟨by rw [up_at (by decide), up_eq, y3, if_neg hbn], hed.1, hed.2⟩)
        · skip
          exfalso; omega
      · skip
        rw [hv1, hw9]
        clear hv1 hw9 v1 w9
        dsimp only [Option.toList, List.cons_append, List.nil_append, List.append_nil]
        refine wp_if_ne (pc' := 9) (pt := 11) rfl rfl rfl (fun q_330 => absurd q_330 (by decide)) (fun q_330 => ?_)
        refine wp_iconst (a := -1) (pc' := 10) rfl rfl rfl ?_
        refine wp_ret rfl rfl rfl ?_
        first
        | (exfalso; omega)
        | exact ⟨rfl, rfl, hI⟩
        | (have hed := deed_end (w3 := up (up w2 109 0 (sBeside (w 3 0) (w 3 1) (w 3 3) way)) 109 1 0) hI (by omega) (by omega) hS1 hX1 hS2 hg2 ho2 h23 (((SameF.rf _ _ _).put (Or.inr (by decide))).put (Or.inr (by decide))) ⟨by rw [up_at (by decide), up_eq, y3, if_neg hbn], by rw [up_eq, y4], by rw [up_at (by decide), up_at (by decide), g109, er 109 (by decide), m2, y5]⟩ ⟨by rw [y3, if_neg hbn]; exact beside_cel hpr.1.1 hpr.2.2.1 hbn, by omega, by omega⟩
           exact ⟨by rw [up_at (by decide), up_eq, y3, if_neg hbn], hed.1, hed.2⟩)
set_option maxRecDepth 20000 in
set_option maxHeartbeats 4000000 in
theorem p_year {w : Hp} {d : Nat} (hI : Inv w) : WP SH (d + 9) 93 0 [some (vR 0)] [] w (fun v0 w1 => ∃ a, v0 = some (vI a) ∧ w1 (-2) = w (-2) ∧ WP SH (d + 9) 191 0 [some (vR 100), none] [] w1 (fun v2 w2 => v2 = some (vI a) ∧ w2 (-2) = w1 (-2) ∧ Inv w2)) := by
  obtain ⟨hT, hRO, hIF, hITo, hIR, hIT, hIL, hIK⟩ := id hI
  obtain ⟨hn25, b11, b12, b10, hn6, hem, m0, m1, m2, m23, hyr, hdd, hpre⟩ := hI.base
  have hmm : w 100 11 * w 100 12 = w 3 0 * w 3 1 := by rw [b11, b12]
  refine wp_aload_n (pc' := 1) rfl rfl rfl (by decide) ?_
  refine wp_getR (r' := 3) (ci := 9) (k0 := 2) (pc' := 4) rfl rfl (by decide) (by first | assumption | rfl) (hT.get 2 rfl) ?_
  refine wp_call (pc' := 7) rfl rfl rfl rfl rfl ⟨Nat.le_of_ble_eq_true rfl, Nat.le_of_ble_eq_true rfl, Nat.le_of_ble_eq_true rfl, Nat.le_of_ble_eq_true rfl, Nat.le_of_ble_eq_true rfl⟩ rfl (c_Land_isEmpty_3) ?_
  rintro v1 w9 ⟨hw9, ⟨hv1, he⟩ | ⟨hv1, he⟩⟩
  · skip
    rw [hv1, hw9]
    clear hv1 hw9 v1 w9
    dsimp only [Option.toList, List.cons_append, List.nil_append, List.append_nil]
    refine wp_if_eq (pc' := 10) (pt := 13) rfl rfl rfl (fun q_1 => absurd q_1 (by decide)) (fun q_1 => ?_)
    refine wp_bipush (a := -4) (pc' := 12) rfl rfl rfl ?_
    refine wp_ret rfl rfl rfl ?_
    refine ⟨_, rfl, ?_, ?_⟩
    · rfl
    refine wp_aload_n (pc' := 1) rfl rfl rfl (by decide) ?_
    refine wp_getI (ci := 10) (k0 := 10) (pc' := 4) rfl rfl (by decide) (by first | assumption | rfl) ?_
    refine wp_if_ne (pc' := 7) (pt := 10) rfl rfl rfl (fun q_52 => ?_) (fun q_52 => ?_)
    · skip
      refine wp_aload_n (pc' := 11) rfl rfl rfl (by decide) ?_
      refine wp_getI (ci := 10) (k0 := 23) (pc' := 14) rfl rfl (by decide) (by first | assumption | rfl) ?_
      refine wp_bipush (a := 40) (pc' := 16) rfl rfl rfl ?_
      refine wp_icmp_ne (pc' := 19) (pt := 22) rfl rfl rfl (fun q_53 => ?_) (fun q_53 => ?_)
      · skip
        exfalso; omega
      · skip
        refine wp_bipush (a := -2) (pc' := 21) rfl rfl rfl ?_
        refine wp_ret rfl rfl rfl ?_
        first
        | (exfalso; omega)
        | exact ⟨rfl, rfl, hI⟩
        | (have hed := deed_end (w3 := w4) hI (by omega) (by omega) hS1 hX1 hS2 hg2 ho2 h23 ((hS3.F _).tr hS4) ⟨by rw [z0, y3, g11, g12, g109, er 100 (by decide), er 109 (by decide), b11, b12, m0], by rw [z1, y4], by rw [z2, y5, g109, er 109 (by decide), m2]⟩ ⟨by rw [y3]; exact beside_cel hpr.1.1 hpr.2.2.1 hwy.2.2, by omega, by omega⟩
           exact ⟨rfl, hed.1, hed.2⟩)
    · skip
      refine wp_bipush (a := -4) (pc' := 9) rfl rfl rfl ?_
      refine wp_ret rfl rfl rfl ?_
      first
      | (exfalso; omega)
      | exact ⟨rfl, rfl, hI⟩
      | (have hed := deed_end (w3 := w4) hI (by omega) (by omega) hS1 hX1 hS2 hg2 ho2 h23 ((hS3.F _).tr hS4) ⟨by rw [z0, y3, g11, g12, g109, er 100 (by decide), er 109 (by decide), b11, b12, m0], by rw [z1, y4], by rw [z2, y5, g109, er 109 (by decide), m2]⟩ ⟨by rw [y3]; exact beside_cel hpr.1.1 hpr.2.2.1 hwy.2.2, by omega, by omega⟩
         exact ⟨rfl, hed.1, hed.2⟩)
  · skip
    rw [hv1, hw9]
    clear hv1 hw9 v1 w9
    have hpr := hpre (by omega)
    dsimp only [Option.toList, List.cons_append, List.nil_append, List.append_nil]
    refine wp_if_eq (pc' := 10) (pt := 13) rfl rfl rfl (fun q_54 => ?_) (fun q_54 => absurd (by decide) q_54)
    refine wp_aload_n (pc' := 14) rfl rfl rfl (by decide) ?_
    refine wp_getR (r' := 3) (ci := 9) (k0 := 2) (pc' := 17) rfl rfl (by decide) (by first | assumption | rfl) (hT.get 2 rfl) ?_
    refine wp_getI (ci := 3) (k0 := 6) (pc' := 20) rfl rfl (by decide) (by first | assumption | rfl) ?_
    refine wp_bipush (a := 40) (pc' := 22) rfl rfl rfl ?_
    refine wp_icmp_lt (pc' := 25) (pt := 28) rfl rfl rfl (fun q_55 => ?_) (fun q_55 => ?_)
    · skip
      refine wp_aload_n (pc' := 29) rfl rfl rfl (by decide) ?_
      refine wp_call (pc' := 32) rfl rfl rfl rfl rfl ⟨Nat.le_of_ble_eq_true rfl, Nat.le_of_ble_eq_true rfl, Nat.le_of_ble_eq_true rfl, Nat.le_of_ble_eq_true rfl, Nat.le_of_ble_eq_true rfl⟩ rfl (c_VH_passYear hT hRO hpr.1 hpr.2.2.1 (by omega) (by omega)) ?_
      rintro v1 w1 ⟨hv1, hS1, hX1, y3, y4, y5⟩
      rw [hv1]
      clear hv1 v1
      have er : ∀ q : Int, 100 ≤ q → w1 q = w q := fun q hq => hS1.cell q (by simp; omega) (by simp [DQ]; omega)
      have f10 : w1 100 10 = w 3 2 := by rw [er 100 (by decide), b10]
      have f23 : w1 100 23 = w 3 6 := by rw [er 100 (by decide), m23]
      have hp3 : MdOK w1 := by
        unfold MdOK
        rw [er 100 (by decide), er 107 (by decide), er 108 (by decide), er 109 (by decide)]
        exact hpr.2.1
      have hx3 : Cel (w1 100 11) (w1 100 12) (w1 109 0) := by rw [er 100 (by decide), er 109 (by decide), b11, b12, m0]; exact hpr.2.2.1
      have hT : Stc w1 := hT.sameF (L := [7, 8, 9, 10, 11, 24, 25]) (F := [(3, 3), (3, 4), (3, 5), (3, 6)]) (hS1.mono (fun r hr => by simp at hr ⊢; omega) (fun q hq => by simp [DQ] at hq; rcases hq with rfl | rfl | rfl | rfl | rfl | rfl | rfl | rfl | rfl <;> simp)) (by decide)
      have hwy := @sWay_ok _ _ (w 3 2) (w 3 3) (w 3 4) (w 4) (w 5) (w 6) hpr.1.1 hpr.2.2.1 (fun j a b => (hpr.1.2.2 j a b).2.2)
      have hag := against_in ⟨hwy.1, hwy.2.1⟩
      dsimp only [Option.toList, List.cons_append, List.nil_append, List.append_nil]
      refine wp_ret rfl rfl rfl ?_
      refine ⟨_, rfl, ?_, ?_⟩
      · exact hS1.cell (-2) (by decide) (by simp [DQ])
      refine wp_aload_n (pc' := 1) rfl rfl rfl (by decide) ?_
      refine wp_getI (ci := 10) (k0 := 10) (pc' := 4) rfl rfl (by decide) (by first | assumption | rfl) ?_
      refine wp_if_ne (pc' := 7) (pt := 10) rfl rfl rfl (fun q_106 => ?_) (fun q_106 => ?_)
      · skip
        refine wp_aload_n (pc' := 11) rfl rfl rfl (by decide) ?_
        refine wp_getI (ci := 10) (k0 := 23) (pc' := 14) rfl rfl (by decide) (by first | assumption | rfl) ?_
        refine wp_bipush (a := 40) (pc' := 16) rfl rfl rfl ?_
        refine wp_icmp_ne (pc' := 19) (pt := 22) rfl rfl rfl (fun q_107 => ?_) (fun q_107 => ?_)
        · skip
          refine wp_aload_n (pc' := 23) rfl rfl rfl (by decide) ?_
          refine wp_call (pc' := 26) rfl rfl rfl rfl rfl ⟨Nat.le_of_ble_eq_true rfl, Nat.le_of_ble_eq_true rfl, Nat.le_of_ble_eq_true rfl, Nat.le_of_ble_eq_true rfl, Nat.le_of_ble_eq_true rfl⟩ rfl (c_Mod_remember hT (by omega)) ?_
          rintro v1 w2 ⟨hv1, hS2, hg2, ho2, h23⟩
          rw [hv1]
          clear hv1 v1
          have hT2 : Stc w2 := hT.sameF hS2 (by decide)
          have hT := hT2
          have hp2 : MdOK w2 := hp3.sameF hS2 (by decide) (by decide)
          have g109 : w2 109 = w1 109 := hS2.cell 109 (by decide) (by decide)
          have g11 : w2 100 11 = w1 100 11 := hS2 100 11 (by decide) (by decide)
          have g12 : w2 100 12 = w1 100 12 := hS2 100 12 (by decide) (by decide)
          have g10 : w2 100 10 = w1 100 10 := hS2 100 10 (by decide) (by decide)
          have g7 : w2 107 = w1 107 := hS2.cell 107 (by decide) (by decide)
          have g8 : w2 108 = w1 108 := hS2.cell 108 (by decide) (by decide)
          have hx2 : Cel (w2 100 11) (w2 100 12) (w2 109 0) := by rw [g11, g12, g109]; exact hx3
          dsimp only [Option.toList, List.cons_append, List.nil_append, List.append_nil]
          refine wp_aload_n (pc' := 27) rfl rfl rfl (by decide) ?_
          refine wp_aload_n (pc' := 28) rfl rfl rfl (by decide) ?_
          refine wp_getR (r' := 109) (ci := 10) (k0 := 15) (pc' := 31) rfl rfl (by decide) (by first | assumption | rfl) (hT.get 107 rfl) ?_
          refine wp_iconst (a := 0) (pc' := 32) rfl rfl rfl ?_
          refine wp_iaload (pc' := 33) rfl rfl (by first | assumption | rfl) (by omega) ?_
          refine wp_aload_n (pc' := 34) rfl rfl rfl (by decide) ?_
          refine wp_getR (r' := 109) (ci := 10) (k0 := 15) (pc' := 37) rfl rfl (by decide) (by first | assumption | rfl) (hT.get 107 rfl) ?_
          refine wp_iconst (a := 1) (pc' := 38) rfl rfl rfl ?_
          refine wp_iaload (pc' := 39) rfl rfl (by first | assumption | rfl) (by omega) ?_
          refine wp_call (pc' := 42) rfl rfl rfl rfl rfl ⟨Nat.le_of_ble_eq_true rfl, Nat.le_of_ble_eq_true rfl, Nat.le_of_ble_eq_true rfl, Nat.le_of_ble_eq_true rfl, Nat.le_of_ble_eq_true rfl⟩ rfl (c_Mod_carriedFrom hT hp2 hx2) ?_
          rintro v1 w3 ⟨hv1, hS3, hz3⟩
          rw [hv1]
          clear hv1 v1
          have hT : Stc w3 := hT.same hS3 (by decide)
          have hp4 : MdOK w3 := hp2.same hS3 (by decide)
          have hx4 : Cel (w3 100 11) (w3 100 12) (w3 109 0) := by rw [hS3 100 (by decide), hS3 109 (by decide)]; exact hx2
          have hway : sWay (w2 100 11) (w2 100 12) (w2 100 10) (w2 107) (fun i => w2 109 (3 + i)) (w2 108) (w2 109 0) (w2 109 1) = (sWay (w 3 0) (w 3 1) (w 3 2) (w 4) (w 5) (w 6) (w 3 3) (w 3 4)) := by
            rw [g11, g12, g10, g7, g8, g109, er 100 (by decide), er 107 (by decide), er 108 (by decide), er 109 (by decide), b11, b12, b10, m0, m1]
            exact sWay_congr (fun j a b => hpr.2.2.2.2 j a b)
          change WP SH _ _ _ _ ((some (vI (sWay (w2 100 11) (w2 100 12) (w2 100 10) (w2 107) (fun i => w2 109 (3 + i)) (w2 108) (w2 109 0) (w2 109 1)))).toList ++ _) _ _
          rw [hway]
          dsimp only [Option.toList, List.cons_append, List.nil_append, List.append_nil]
          refine wp_istore_n (pc' := 43) rfl rfl (Nat.le_of_ble_eq_true rfl) rfl ?_
          dsimp only [lset, lset2, List.set, List.getElem?_cons_zero, List.getElem?_cons_succ]
          refine wp_aload_n (pc' := 44) rfl rfl rfl (by decide) ?_
          refine wp_aload_n (pc' := 45) rfl rfl rfl (by decide) ?_
          refine wp_getR (r' := 109) (ci := 10) (k0 := 15) (pc' := 48) rfl rfl (by decide) (by first | assumption | rfl) (hT.get 107 rfl) ?_
          refine wp_call (pc' := 51) rfl rfl rfl rfl rfl ⟨Nat.le_of_ble_eq_true rfl, Nat.le_of_ble_eq_true rfl, Nat.le_of_ble_eq_true rfl, Nat.le_of_ble_eq_true rfl, Nat.le_of_ble_eq_true rfl⟩ rfl (c_Mod_passes_now hT hp4 hx4 (by rw [hS3 109 (by decide), g109, er 109 (by decide), m2]; omega)) ?_
          rintro v1 w4 ⟨hv1, hS4, z0, z1, z2⟩
          rw [hv1]
          clear hv1 v1
          rw [hS3 100 (by decide), hS3 107 (by decide), hS3 108 (by decide), hS3 109 (by decide)] at z0 z1
          rw [hS3 109 (by decide)] at z2
          rw [hway] at z0 z1
          dsimp only [Option.toList, List.cons_append, List.nil_append, List.append_nil]
          refine wp_iload_n (pc' := 52) rfl rfl rfl ?_
          refine wp_ret rfl rfl rfl ?_
          first
          | (exfalso; omega)
          | exact ⟨rfl, rfl, hI⟩
          | (have hed := deed_end (w3 := w4) hI (by omega) (by omega) hS1 hX1 hS2 hg2 ho2 h23 ((hS3.F _).tr hS4) ⟨by rw [z0, y3, g11, g12, g109, er 100 (by decide), er 109 (by decide), b11, b12, m0], by rw [z1, y4], by rw [z2, y5, g109, er 109 (by decide), m2]⟩ ⟨by rw [y3]; exact beside_cel hpr.1.1 hpr.2.2.1 hwy.2.2, by omega, by omega⟩
             exact ⟨rfl, hed.1, hed.2⟩)
        · skip
          refine wp_bipush (a := -2) (pc' := 21) rfl rfl rfl ?_
          refine wp_ret rfl rfl rfl ?_
          first
          | (exfalso; omega)
          | exact ⟨rfl, rfl, hI⟩
          | (have hed := deed_end (w3 := w4) hI (by omega) (by omega) hS1 hX1 hS2 hg2 ho2 h23 ((hS3.F _).tr hS4) ⟨by rw [z0, y3, g11, g12, g109, er 100 (by decide), er 109 (by decide), b11, b12, m0], by rw [z1, y4], by rw [z2, y5, g109, er 109 (by decide), m2]⟩ ⟨by rw [y3]; exact beside_cel hpr.1.1 hpr.2.2.1 hwy.2.2, by omega, by omega⟩
             exact ⟨rfl, hed.1, hed.2⟩)
      · skip
        refine wp_bipush (a := -4) (pc' := 9) rfl rfl rfl ?_
        refine wp_ret rfl rfl rfl ?_
        first
        | (exfalso; omega)
        | exact ⟨rfl, rfl, hI⟩
        | (have hed := deed_end (w3 := w4) hI (by omega) (by omega) hS1 hX1 hS2 hg2 ho2 h23 ((hS3.F _).tr hS4) ⟨by rw [z0, y3, g11, g12, g109, er 100 (by decide), er 109 (by decide), b11, b12, m0], by rw [z1, y4], by rw [z2, y5, g109, er 109 (by decide), m2]⟩ ⟨by rw [y3]; exact beside_cel hpr.1.1 hpr.2.2.1 hwy.2.2, by omega, by omega⟩
           exact ⟨rfl, hed.1, hed.2⟩)
    · skip
      refine wp_bipush (a := -2) (pc' := 27) rfl rfl rfl ?_
      refine wp_ret rfl rfl rfl ?_
      refine ⟨_, rfl, ?_, ?_⟩
      · rfl
      refine wp_aload_n (pc' := 1) rfl rfl rfl (by decide) ?_
      refine wp_getI (ci := 10) (k0 := 10) (pc' := 4) rfl rfl (by decide) (by first | assumption | rfl) ?_
      refine wp_if_ne (pc' := 7) (pt := 10) rfl rfl rfl (fun q_158 => ?_) (fun q_158 => ?_)
      · skip
        refine wp_aload_n (pc' := 11) rfl rfl rfl (by decide) ?_
        refine wp_getI (ci := 10) (k0 := 23) (pc' := 14) rfl rfl (by decide) (by first | assumption | rfl) ?_
        refine wp_bipush (a := 40) (pc' := 16) rfl rfl rfl ?_
        refine wp_icmp_ne (pc' := 19) (pt := 22) rfl rfl rfl (fun q_159 => ?_) (fun q_159 => ?_)
        · skip
          exfalso; omega
        · skip
          refine wp_bipush (a := -2) (pc' := 21) rfl rfl rfl ?_
          refine wp_ret rfl rfl rfl ?_
          first
          | (exfalso; omega)
          | exact ⟨rfl, rfl, hI⟩
          | (have hed := deed_end (w3 := w4) hI (by omega) (by omega) hS1 hX1 hS2 hg2 ho2 h23 ((hS3.F _).tr hS4) ⟨by rw [z0, y3, g11, g12, g109, er 100 (by decide), er 109 (by decide), b11, b12, m0], by rw [z1, y4], by rw [z2, y5, g109, er 109 (by decide), m2]⟩ ⟨by rw [y3]; exact beside_cel hpr.1.1 hpr.2.2.1 hwy.2.2, by omega, by omega⟩
             exact ⟨rfl, hed.1, hed.2⟩)
      · skip
        refine wp_bipush (a := -4) (pc' := 9) rfl rfl rfl ?_
        refine wp_ret rfl rfl rfl ?_
        first
        | (exfalso; omega)
        | exact ⟨rfl, rfl, hI⟩
        | (have hed := deed_end (w3 := w4) hI (by omega) (by omega) hS1 hX1 hS2 hg2 ho2 h23 ((hS3.F _).tr hS4) ⟨by rw [z0, y3, g11, g12, g109, er 100 (by decide), er 109 (by decide), b11, b12, m0], by rw [z1, y4], by rw [z2, y5, g109, er 109 (by decide), m2]⟩ ⟨by rw [y3]; exact beside_cel hpr.1.1 hpr.2.2.1 hwy.2.2, by omega, by omega⟩
           exact ⟨rfl, hed.1, hed.2⟩)
