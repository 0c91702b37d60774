/-! then -/
theorem worth_congr {c n cell : Int} {K K' H H' G G' : Int → Int} (h : ∀ j : Int, 0 ≤ j → j < n → K j = K' j ∧ H j = H' j ∧ G j = G' j) : sumI (fWorth c K H G cell) n = sumI (fWorth c K' H' G' cell) n := by
  refine sumI_congr (fun i a b => ?_)
  obtain ⟨h1, h2, h3⟩ := h i a b
  unfold fWorth
  rw [h1, h2, h3]
theorem qry {w w' : Hp} {L : List Int} {F : List (Int × Int)} (h : SameF w w' L F) (hL : L.all (fun r => decide (r ∈ LQ)) = true) (hF : F.all (fun q => decide (q ∈ FQ ∨ q.1 ∈ LQ)) = true) : SameF w w' LQ FQ := h.mono (fun r hr => of_decide_eq_true (List.all_eq_true.mp hL r hr)) (fun q hq => of_decide_eq_true (List.all_eq_true.mp hF q hq))
set_option maxRecDepth 20000 in
set_option maxHeartbeats 4000000 in
theorem p_then {w : Hp} {d : Nat} {n : Int} (hI : Inv w) : WP SH (d + 9) 102 0 [some (vR 0), some (vI n), none] [] w (fun v0 w1 => ∃ a, v0 = some (vI a) ∧ w1 (-2) = w (-2) ∧ WP SH (d + 9) 202 0 [some (vR 100), some (vI n), none, none] [] w1 (fun v2 w2 => v2 = some (vI a) ∧ w2 (-2) = w1 (-2) ∧ Inv w2)) := by
  obtain ⟨hT, hRO, hIF, hITo, hIR, hIT, hIL, hIK⟩ := id hI
  obtain ⟨hn25, b11, b12, b10, hn6, hem, m0, m1, m2, m23, hyr, hdd, hpre⟩ := hI.base
  have hmm : w 100 11 * w 100 12 = w 3 0 * w 3 1 := by rw [b11, b12]
  refine wp_iload_n (pc' := 1) rfl rfl rfl ?_
  refine wp_if_lt (pc' := 4) (pt := 10) rfl rfl rfl (fun q_1 => ?_) (fun q_1 => ?_)
  · skip
    refine wp_iconst (a := -1) (pc' := 11) rfl rfl rfl ?_
    refine wp_ret rfl rfl rfl ?_
    refine ⟨_, rfl, ?_, ?_⟩
    · rfl
    refine wp_aload_n (pc' := 1) rfl rfl rfl (by decide) ?_
    refine wp_iload_n (pc' := 2) rfl rfl rfl ?_
    refine wp_iconst (a := 0) (pc' := 3) rfl rfl rfl ?_
    refine wp_bipush (a := 40) (pc' := 5) rfl rfl rfl ?_
    refine wp_call (pc' := 8) rfl rfl rfl rfl rfl ⟨Nat.le_of_ble_eq_true rfl, Nat.le_of_ble_eq_true rfl, Nat.le_of_ble_eq_true rfl, Nat.le_of_ble_eq_true rfl, Nat.le_of_ble_eq_true rfl⟩ rfl (c_Mod_in) ?_
    rintro v1 w9 ⟨hw9, ⟨hv1, hin⟩ | ⟨hv1, hin⟩⟩
    · skip
      rw [hv1, hw9]
      clear hv1 hw9 v1 w9
      dsimp only [Option.toList, List.cons_append, List.nil_append, List.append_nil]
      refine wp_call (pc' := 11) rfl rfl rfl rfl rfl ⟨Nat.le_of_ble_eq_true rfl, Nat.le_of_ble_eq_true rfl, Nat.le_of_ble_eq_true rfl, Nat.le_of_ble_eq_true rfl, Nat.le_of_ble_eq_true rfl⟩ rfl (c_Mod_need (by decide)) ?_
      rintro v1 w9 ⟨hw9, ⟨hv1, hg1⟩ | ⟨hv1, hg1, hg2⟩ | ⟨hv1, hg1, hg2⟩⟩
      · skip
        rw [hv1, hw9]
        clear hv1 hw9 v1 w9
        dsimp only [Option.toList, List.cons_append, List.nil_append, List.append_nil]
        refine wp_istore_n (pc' := 12) rfl rfl (Nat.le_of_ble_eq_true rfl) rfl ?_
        dsimp only [lset, lset2, List.set, List.getElem?_cons_zero, List.getElem?_cons_succ]
        refine wp_iload_n (pc' := 13) rfl rfl rfl ?_
        refine wp_if_ge (pc' := 16) (pt := 18) rfl rfl rfl (fun q_52 => absurd q_52 (by decide)) (fun q_52 => ?_)
        refine wp_iload_n (pc' := 17) rfl rfl rfl ?_
        refine wp_ret rfl rfl rfl ?_
        first
        | (exfalso; omega)
        | exact ⟨rfl, rfl, hI⟩
        | (refine ⟨by rw [hc5, e30], ?_, hI.query (w' := w6) ?_ ?_⟩
           · rw [hw6, up_ne (by decide)]
             exact (hS35.cell (-2) (by decide) (by decide)).trans (hS3.cell (-2) (by decide) (by decide)).symm
           · rw [hw6]
             exact hS35.put (Or.inr (by decide))
           · rw [hw6, up_eq, up_ne (by decide), g10, g11, g7, g8, g9, hc5, worth_congr (K' := w 4) (H' := w 5) (G' := w 6) (fun j a b => hpr.2.2.2.2 j a b), ← e314, hS5.cell 0 (by decide) (by decide), hS4 0 (by decide)])
      · skip
        rw [hv1, hw9]
        clear hv1 hw9 v1 w9
        dsimp only [Option.toList, List.cons_append, List.nil_append, List.append_nil]
        refine wp_istore_n (pc' := 12) rfl rfl (Nat.le_of_ble_eq_true rfl) rfl ?_
        dsimp only [lset, lset2, List.set, List.getElem?_cons_zero, List.getElem?_cons_succ]
        refine wp_iload_n (pc' := 13) rfl rfl rfl ?_
        refine wp_if_ge (pc' := 16) (pt := 18) rfl rfl rfl (fun q_53 => absurd q_53 (by decide)) (fun q_53 => ?_)
        refine wp_iload_n (pc' := 17) rfl rfl rfl ?_
        refine wp_ret rfl rfl rfl ?_
        first
        | (exfalso; omega)
        | exact ⟨rfl, rfl, hI⟩
        | (refine ⟨by rw [hc5, e30], ?_, hI.query (w' := w6) ?_ ?_⟩
           · rw [hw6, up_ne (by decide)]
             exact (hS35.cell (-2) (by decide) (by decide)).trans (hS3.cell (-2) (by decide) (by decide)).symm
           · rw [hw6]
             exact hS35.put (Or.inr (by decide))
           · rw [hw6, up_eq, up_ne (by decide), g10, g11, g7, g8, g9, hc5, worth_congr (K' := w 4) (H' := w 5) (G' := w 6) (fun j a b => hpr.2.2.2.2 j a b), ← e314, hS5.cell 0 (by decide) (by decide), hS4 0 (by decide)])
      · skip
        rw [hv1, hw9]
        clear hv1 hw9 v1 w9
        dsimp only [Option.toList, List.cons_append, List.nil_append, List.append_nil]
        refine wp_istore_n (pc' := 12) rfl rfl (Nat.le_of_ble_eq_true rfl) rfl ?_
        dsimp only [lset, lset2, List.set, List.getElem?_cons_zero, List.getElem?_cons_succ]
        refine wp_iload_n (pc' := 13) rfl rfl rfl ?_
        refine wp_if_ge (pc' := 16) (pt := 18) rfl rfl rfl (fun q_54 => ?_) (fun q_54 => absurd (by decide) q_54)
        exfalso; omega
    · skip
      rw [hv1, hw9]
      clear hv1 hw9 v1 w9
      dsimp only [Option.toList, List.cons_append, List.nil_append, List.append_nil]
      refine wp_call (pc' := 11) rfl rfl rfl rfl rfl ⟨Nat.le_of_ble_eq_true rfl, Nat.le_of_ble_eq_true rfl, Nat.le_of_ble_eq_true rfl, Nat.le_of_ble_eq_true rfl, Nat.le_of_ble_eq_true rfl⟩ rfl (c_Mod_need (by decide)) ?_
      rintro v1 w9 ⟨hw9, ⟨hv1, hg1⟩ | ⟨hv1, hg1, hg2⟩ | ⟨hv1, hg1, hg2⟩⟩
      · skip
        rw [hv1, hw9]
        clear hv1 hw9 v1 w9
        dsimp only [Option.toList, List.cons_append, List.nil_append, List.append_nil]
        refine wp_istore_n (pc' := 12) rfl rfl (Nat.le_of_ble_eq_true rfl) rfl ?_
        dsimp only [lset, lset2, List.set, List.getElem?_cons_zero, List.getElem?_cons_succ]
        refine wp_iload_n (pc' := 13) rfl rfl rfl ?_
        refine wp_if_ge (pc' := 16) (pt := 18) rfl rfl rfl (fun q_55 => absurd q_55 (by decide)) (fun q_55 => ?_)
        refine wp_iload_n (pc' := 17) rfl rfl rfl ?_
        refine wp_ret rfl rfl rfl ?_
        first
        | (exfalso; omega)
        | exact ⟨rfl, rfl, hI⟩
        | (refine ⟨by rw [hc5, e30], ?_, hI.query (w' := w6) ?_ ?_⟩
           · rw [hw6, up_ne (by decide)]
             exact (hS35.cell (-2) (by decide) (by decide)).trans (hS3.cell (-2) (by decide) (by decide)).symm
           · rw [hw6]
             exact hS35.put (Or.inr (by decide))
           · rw [hw6, up_eq, up_ne (by decide), g10, g11, g7, g8, g9, hc5, worth_congr (K' := w 4) (H' := w 5) (G' := w 6) (fun j a b => hpr.2.2.2.2 j a b), ← e314, hS5.cell 0 (by decide) (by decide), hS4 0 (by decide)])
      · skip
        rw [hv1, hw9]
        clear hv1 hw9 v1 w9
        dsimp only [Option.toList, List.cons_append, List.nil_append, List.append_nil]
        refine wp_istore_n (pc' := 12) rfl rfl (Nat.le_of_ble_eq_true rfl) rfl ?_
        dsimp only [lset, lset2, List.set, List.getElem?_cons_zero, List.getElem?_cons_succ]
        refine wp_iload_n (pc' := 13) rfl rfl rfl ?_
        refine wp_if_ge (pc' := 16) (pt := 18) rfl rfl rfl (fun q_56 => absurd q_56 (by decide)) (fun q_56 => ?_)
        refine wp_iload_n (pc' := 17) rfl rfl rfl ?_
        refine wp_ret rfl rfl rfl ?_
        first
        | (exfalso; omega)
        | exact ⟨rfl, rfl, hI⟩
        | (refine ⟨by rw [hc5, e30], ?_, hI.query (w' := w6) ?_ ?_⟩
           · rw [hw6, up_ne (by decide)]
             exact (hS35.cell (-2) (by decide) (by decide)).trans (hS3.cell (-2) (by decide) (by decide)).symm
           · rw [hw6]
             exact hS35.put (Or.inr (by decide))
           · rw [hw6, up_eq, up_ne (by decide), g10, g11, g7, g8, g9, hc5, worth_congr (K' := w 4) (H' := w 5) (G' := w 6) (fun j a b => hpr.2.2.2.2 j a b), ← e314, hS5.cell 0 (by decide) (by decide), hS4 0 (by decide)])
      · skip
        rw [hv1, hw9]
        clear hv1 hw9 v1 w9
        dsimp only [Option.toList, List.cons_append, List.nil_append, List.append_nil]
        refine wp_istore_n (pc' := 12) rfl rfl (Nat.le_of_ble_eq_true rfl) rfl ?_
        dsimp only [lset, lset2, List.set, List.getElem?_cons_zero, List.getElem?_cons_succ]
        refine wp_iload_n (pc' := 13) rfl rfl rfl ?_
        refine wp_if_ge (pc' := 16) (pt := 18) rfl rfl rfl (fun q_57 => ?_) (fun q_57 => absurd (by decide) q_57)
        exfalso; omega
  · skip
    refine wp_iload_n (pc' := 5) rfl rfl rfl ?_
    refine wp_bipush (a := 40) (pc' := 7) rfl rfl rfl ?_
    refine wp_icmp_le (pc' := 10) (pt := 12) rfl rfl rfl (fun q_58 => ?_) (fun q_58 => ?_)
    · skip
      refine wp_aload_n (pc' := 13) rfl rfl rfl (by decide) ?_
      refine wp_getR (r' := 3) (ci := 9) (k0 := 2) (pc' := 16) rfl rfl (by decide) (by first | assumption | rfl) (hT.get 2 rfl) ?_
      refine wp_call (pc' := 19) rfl rfl rfl rfl rfl ⟨Nat.le_of_ble_eq_true rfl, Nat.le_of_ble_eq_true rfl, Nat.le_of_ble_eq_true rfl, Nat.le_of_ble_eq_true rfl, Nat.le_of_ble_eq_true rfl⟩ rfl (c_Land_isEmpty_3) ?_
      rintro v1 w9 ⟨hw9, ⟨hv1, he⟩ | ⟨hv1, he⟩⟩
      · skip
        rw [hv1, hw9]
        clear hv1 hw9 v1 w9
        dsimp only [Option.toList, List.cons_append, List.nil_append, List.append_nil]
        refine wp_if_eq (pc' := 22) (pt := 25) rfl rfl rfl (fun q_59 => absurd q_59 (by decide)) (fun q_59 => ?_)
        refine wp_bipush (a := -4) (pc' := 24) rfl rfl rfl ?_
        refine wp_ret rfl rfl rfl ?_
        refine ⟨_, rfl, ?_, ?_⟩
        · rfl
        refine wp_aload_n (pc' := 1) rfl rfl rfl (by decide) ?_
        refine wp_iload_n (pc' := 2) rfl rfl rfl ?_
        refine wp_iconst (a := 0) (pc' := 3) rfl rfl rfl ?_
        refine wp_bipush (a := 40) (pc' := 5) rfl rfl rfl ?_
        refine wp_call (pc' := 8) rfl rfl rfl rfl rfl ⟨Nat.le_of_ble_eq_true rfl, Nat.le_of_ble_eq_true rfl, Nat.le_of_ble_eq_true rfl, Nat.le_of_ble_eq_true rfl, Nat.le_of_ble_eq_true rfl⟩ rfl (c_Mod_in) ?_
        rintro v1 w9 ⟨hw9, ⟨hv1, hin⟩ | ⟨hv1, hin⟩⟩
        · skip
          rw [hv1, hw9]
          clear hv1 hw9 v1 w9
          dsimp only [Option.toList, List.cons_append, List.nil_append, List.append_nil]
          refine wp_call (pc' := 11) rfl rfl rfl rfl rfl ⟨Nat.le_of_ble_eq_true rfl, Nat.le_of_ble_eq_true rfl, Nat.le_of_ble_eq_true rfl, Nat.le_of_ble_eq_true rfl, Nat.le_of_ble_eq_true rfl⟩ rfl (c_Mod_need (by decide)) ?_
          rintro v1 w9 ⟨hw9, ⟨hv1, hg1⟩ | ⟨hv1, hg1, hg2⟩ | ⟨hv1, hg1, hg2⟩⟩
          · skip
            rw [hv1, hw9]
            clear hv1 hw9 v1 w9
            dsimp only [Option.toList, List.cons_append, List.nil_append, List.append_nil]
            refine wp_istore_n (pc' := 12) rfl rfl (Nat.le_of_ble_eq_true rfl) rfl ?_
            dsimp only [lset, lset2, List.set, List.getElem?_cons_zero, List.getElem?_cons_succ]
            refine wp_iload_n (pc' := 13) rfl rfl rfl ?_
            refine wp_if_ge (pc' := 16) (pt := 18) rfl rfl rfl (fun q_110 => absurd q_110 (by decide)) (fun q_110 => ?_)
            refine wp_iload_n (pc' := 17) rfl rfl rfl ?_
            refine wp_ret rfl rfl rfl ?_
            first
            | (exfalso; omega)
            | exact ⟨rfl, rfl, hI⟩
            | (refine ⟨by rw [hc5, e30], ?_, hI.query (w' := w6) ?_ ?_⟩
               · rw [hw6, up_ne (by decide)]
                 exact (hS35.cell (-2) (by decide) (by decide)).trans (hS3.cell (-2) (by decide) (by decide)).symm
               · rw [hw6]
                 exact hS35.put (Or.inr (by decide))
               · rw [hw6, up_eq, up_ne (by decide), g10, g11, g7, g8, g9, hc5, worth_congr (K' := w 4) (H' := w 5) (G' := w 6) (fun j a b => hpr.2.2.2.2 j a b), ← e314, hS5.cell 0 (by decide) (by decide), hS4 0 (by decide)])
          · skip
            rw [hv1, hw9]
            clear hv1 hw9 v1 w9
            dsimp only [Option.toList, List.cons_append, List.nil_append, List.append_nil]
            refine wp_istore_n (pc' := 12) rfl rfl (Nat.le_of_ble_eq_true rfl) rfl ?_
            dsimp only [lset, lset2, List.set, List.getElem?_cons_zero, List.getElem?_cons_succ]
            refine wp_iload_n (pc' := 13) rfl rfl rfl ?_
            refine wp_if_ge (pc' := 16) (pt := 18) rfl rfl rfl (fun q_111 => absurd q_111 (by decide)) (fun q_111 => ?_)
            refine wp_iload_n (pc' := 17) rfl rfl rfl ?_
            refine wp_ret rfl rfl rfl ?_
            first
            | (exfalso; omega)
            | exact ⟨rfl, rfl, hI⟩
            | (refine ⟨by rw [hc5, e30], ?_, hI.query (w' := w6) ?_ ?_⟩
               · rw [hw6, up_ne (by decide)]
                 exact (hS35.cell (-2) (by decide) (by decide)).trans (hS3.cell (-2) (by decide) (by decide)).symm
               · rw [hw6]
                 exact hS35.put (Or.inr (by decide))
               · rw [hw6, up_eq, up_ne (by decide), g10, g11, g7, g8, g9, hc5, worth_congr (K' := w 4) (H' := w 5) (G' := w 6) (fun j a b => hpr.2.2.2.2 j a b), ← e314, hS5.cell 0 (by decide) (by decide), hS4 0 (by decide)])
          · skip
            rw [hv1, hw9]
            clear hv1 hw9 v1 w9
            dsimp only [Option.toList, List.cons_append, List.nil_append, List.append_nil]
            refine wp_istore_n (pc' := 12) rfl rfl (Nat.le_of_ble_eq_true rfl) rfl ?_
            dsimp only [lset, lset2, List.set, List.getElem?_cons_zero, List.getElem?_cons_succ]
            refine wp_iload_n (pc' := 13) rfl rfl rfl ?_
            refine wp_if_ge (pc' := 16) (pt := 18) rfl rfl rfl (fun q_112 => ?_) (fun q_112 => absurd (by decide) q_112)
            exfalso; omega
        · skip
          rw [hv1, hw9]
          clear hv1 hw9 v1 w9
          dsimp only [Option.toList, List.cons_append, List.nil_append, List.append_nil]
          refine wp_call (pc' := 11) rfl rfl rfl rfl rfl ⟨Nat.le_of_ble_eq_true rfl, Nat.le_of_ble_eq_true rfl, Nat.le_of_ble_eq_true rfl, Nat.le_of_ble_eq_true rfl, Nat.le_of_ble_eq_true rfl⟩ rfl (c_Mod_need (by decide)) ?_
          rintro v1 w9 ⟨hw9, ⟨hv1, hg1⟩ | ⟨hv1, hg1, hg2⟩ | ⟨hv1, hg1, hg2⟩⟩
          · skip
            rw [hv1, hw9]
            clear hv1 hw9 v1 w9
            dsimp only [Option.toList, List.cons_append, List.nil_append, List.append_nil]
            refine wp_istore_n (pc' := 12) rfl rfl (Nat.le_of_ble_eq_true rfl) rfl ?_
            dsimp only [lset, lset2, List.set, List.getElem?_cons_zero, List.getElem?_cons_succ]
            refine wp_iload_n (pc' := 13) rfl rfl rfl ?_
            refine wp_if_ge (pc' := 16) (pt := 18) rfl rfl rfl (fun q_113 => absurd q_113 (by decide)) (fun q_113 => ?_)
            refine wp_iload_n (pc' := 17) rfl rfl rfl ?_
            refine wp_ret rfl rfl rfl ?_
            first
            | (exfalso; omega)
            | exact ⟨rfl, rfl, hI⟩
            | (refine ⟨by rw [hc5, e30], ?_, hI.query (w' := w6) ?_ ?_⟩
               · rw [hw6, up_ne (by decide)]
                 exact (hS35.cell (-2) (by decide) (by decide)).trans (hS3.cell (-2) (by decide) (by decide)).symm
               · rw [hw6]
                 exact hS35.put (Or.inr (by decide))
               · rw [hw6, up_eq, up_ne (by decide), g10, g11, g7, g8, g9, hc5, worth_congr (K' := w 4) (H' := w 5) (G' := w 6) (fun j a b => hpr.2.2.2.2 j a b), ← e314, hS5.cell 0 (by decide) (by decide), hS4 0 (by decide)])
          · skip
            rw [hv1, hw9]
            clear hv1 hw9 v1 w9
            dsimp only [Option.toList, List.cons_append, List.nil_append, List.append_nil]
            refine wp_istore_n (pc' := 12) rfl rfl (Nat.le_of_ble_eq_true rfl) rfl ?_
            dsimp only [lset, lset2, List.set, List.getElem?_cons_zero, List.getElem?_cons_succ]
            refine wp_iload_n (pc' := 13) rfl rfl rfl ?_
            refine wp_if_ge (pc' := 16) (pt := 18) rfl rfl rfl (fun q_114 => absurd q_114 (by decide)) (fun q_114 => ?_)
            refine wp_iload_n (pc' := 17) rfl rfl rfl ?_
            refine wp_ret rfl rfl rfl ?_
            first
            | (exfalso; omega)
            | exact ⟨rfl, rfl, hI⟩
            | (refine ⟨by rw [hc5, e30], ?_, hI.query (w' := w6) ?_ ?_⟩
               · rw [hw6, up_ne (by decide)]
                 exact (hS35.cell (-2) (by decide) (by decide)).trans (hS3.cell (-2) (by decide) (by decide)).symm
               · rw [hw6]
                 exact hS35.put (Or.inr (by decide))
               · rw [hw6, up_eq, up_ne (by decide), g10, g11, g7, g8, g9, hc5, worth_congr (K' := w 4) (H' := w 5) (G' := w 6) (fun j a b => hpr.2.2.2.2 j a b), ← e314, hS5.cell 0 (by decide) (by decide), hS4 0 (by decide)])
          · skip
            rw [hv1, hw9]
            clear hv1 hw9 v1 w9
            dsimp only [Option.toList, List.cons_append, List.nil_append, List.append_nil]
            refine wp_istore_n (pc' := 12) rfl rfl (Nat.le_of_ble_eq_true rfl) rfl ?_
            dsimp only [lset, lset2, List.set, List.getElem?_cons_zero, List.getElem?_cons_succ]
            refine wp_iload_n (pc' := 13) rfl rfl rfl ?_
            refine wp_if_ge (pc' := 16) (pt := 18) rfl rfl rfl (fun q_115 => ?_) (fun q_115 => absurd (by decide) q_115)
            exfalso; omega
      · skip
        rw [hv1, hw9]
        clear hv1 hw9 v1 w9
        dsimp only [Option.toList, List.cons_append, List.nil_append, List.append_nil]
        refine wp_if_eq (pc' := 22) (pt := 25) rfl rfl rfl (fun q_116 => ?_) (fun q_116 => absurd (by decide) q_116)
        refine wp_aload_n (pc' := 26) rfl rfl rfl (by decide) ?_
        refine wp_getR (r' := 26) (ci := 9) (k0 := 7) (pc' := 29) rfl rfl (by decide) (by first | assumption | rfl) (hT.get 7 rfl) ?_
        refine wp_aload_n (pc' := 30) rfl rfl rfl (by decide) ?_
        refine wp_getR (r' := 3) (ci := 9) (k0 := 2) (pc' := 33) rfl rfl (by decide) (by first | assumption | rfl) (hT.get 2 rfl) ?_
        refine wp_call (pc' := 36) rfl rfl rfl rfl rfl ⟨Nat.le_of_ble_eq_true rfl, Nat.le_of_ble_eq_true rfl, Nat.le_of_ble_eq_true rfl, Nat.le_of_ble_eq_true rfl, Nat.le_of_ble_eq_true rfl⟩ rfl (c_Years_begin hT) ?_
        rintro v1 wB ⟨hv1, hwB⟩
        rw [hv1]
        clear hv1 v1
        have hpr := hpre (by omega)
        have hSB : SameF w wB LQ FQ := by rw [hwB]; exact ((SameF.rf w _ _).put (Or.inr (by decide))).put (Or.inr (by decide))
        have eB : ∀ q : Int, q ≠ 26 → wB q = w q := fun q a => by rw [hwB, up_ne a, up_ne a]
        have hTB : Stc wB := hT.sameF hSB (by decide)
        have hrB : ROw wB := by
          unfold ROw
          rw [eB _ (by decide), eB _ (by decide), eB _ (by decide)]
          exact hRO
        have hpB : LnOK wB := by
          unfold LnOK
          rw [eB 3 (by decide), eB 4 (by decide), eB 5 (by decide), eB 6 (by decide)]
          exact hpr.1
        have hB0 : wB 26 0 = w 3 3 := by rw [hwB, up_at (by decide), up_eq]
        have hB2 : wB 26 2 = w 3 4 := by rw [hwB, up_eq]
        have hT := hTB
        dsimp only [Option.toList, List.cons_append, List.nil_append, List.append_nil]
        refine wp_iconst (a := 0) (pc' := 37) rfl rfl rfl ?_
        refine wp_istore_n (pc' := 38) rfl rfl (Nat.le_of_ble_eq_true rfl) rfl ?_
        dsimp only [lset, lset2, List.set, List.getElem?_cons_zero, List.getElem?_cons_succ]
        refine l_then (w := wB) (p0 := (w 3 3, w 3 4)) hTB hrB hpB (by rw [eB 3 (by decide)]; exact hpr.2.2.1) hpr.2.2.2.1 (by omega) (fun w1 hS1 hc1 => ?_) n.toNat 0 0 wB rfl (by omega) (SameF.rf _ _ _) ⟨hB0, hB2⟩
        rw [eB 3 (by decide), eB 4 (by decide), eB 5 (by decide), eB 6 (by decide)] at hc1
        have hT := hTB.sameF hS1 (by decide)
        have hSW : SameF w w1 LQ FQ := hSB.tr (qry hS1 (by decide) (by decide))
        have e3 : w1 3 = w 3 := (hS1.cell 3 (by decide) (by decide)).trans (eB 3 (by decide))
        have e4 : w1 4 = w 4 := (hS1.cell 4 (by decide) (by decide)).trans (eB 4 (by decide))
        have e5 : w1 5 = w 5 := (hS1.cell 5 (by decide) (by decide)).trans (eB 5 (by decide))
        have e6 : w1 6 = w 6 := (hS1.cell 6 (by decide) (by decide)).trans (eB 6 (by decide))
        have hpW : LnOK w1 := by
          unfold LnOK
          rw [e3, e4, e5, e6]
          exact hpr.1
        have hyo := @yN_ok _ _ (w 3 2) (w 4) (w 5) (w 6) (w 3 3, w 3 4) hpr.1.1 hpr.2.2.1 hpr.2.2.2.1 (fun j a b => (hpr.1.2.2 j a b).2.2) n.toNat
        have hxW : Cel (w1 3 0) (w1 3 1) (w1 26 0) := by rw [e3, hc1]; exact hyo.1
        refine wp_aload_n (pc' := 65) rfl rfl rfl (by decide) ?_
        refine wp_aload_n (pc' := 66) rfl rfl rfl (by decide) ?_
        refine wp_getR (r' := 3) (ci := 9) (k0 := 2) (pc' := 69) rfl rfl (by decide) (by first | assumption | rfl) (hT.get 2 rfl) ?_
        refine wp_aload_n (pc' := 70) rfl rfl rfl (by decide) ?_
        refine wp_getR (r' := 26) (ci := 9) (k0 := 7) (pc' := 73) rfl rfl (by decide) (by first | assumption | rfl) (hT.get 7 rfl) ?_
        refine wp_getI (ci := 8) (k0 := 0) (pc' := 76) rfl rfl (by decide) (by first | assumption | rfl) ?_
        refine wp_call (pc' := 79) rfl rfl rfl rfl rfl ⟨Nat.le_of_ble_eq_true rfl, Nat.le_of_ble_eq_true rfl, Nat.le_of_ble_eq_true rfl, Nat.le_of_ble_eq_true rfl, Nat.le_of_ble_eq_true rfl⟩ rfl (c_Land_worth hpW hT hxW) ?_
        intro v1 w9 hq1
        rw [hq1.1, hq1.2]
        clear hq1 v1 w9
        dsimp only [Option.toList, List.cons_append, List.nil_append, List.append_nil]
        refine wp_putI (ci := 9) (k0 := 14) (pc' := 82) rfl rfl (by decide) (by first | assumption | rfl) ?_
        have hT := hT.putF (r := 0) (i := 14) (x := sumI (fWorth (w1 3 0) (w1 4) (w1 5) (w1 6) (w1 26 0)) (w1 3 2)) (by decide)
        refine wp_aload_n (pc' := 83) rfl rfl rfl (by decide) ?_
        refine wp_getR (r' := 26) (ci := 9) (k0 := 7) (pc' := 86) rfl rfl (by decide) (by first | assumption | rfl) (hT.get 7 rfl) ?_
        refine wp_getI (ci := 8) (k0 := 0) (pc' := 89) rfl rfl (by decide) (by first | assumption | rfl) ?_
        refine wp_ret rfl rfl rfl ?_
        refine ⟨_, rfl, ?_, ?_⟩
        · rw [up_ne (by decide)]
          exact hSW.cell (-2) (by decide) (by decide)
        obtain ⟨w3, hw3⟩ : ∃ w3, w3 = up w1 0 14 (sumI (fWorth (w1 3 0) (w1 4) (w1 5) (w1 6) (w1 26 0)) (w1 3 2)) := ⟨_, rfl⟩
        rw [← hw3]
        have hT : Stc w3 := by rw [hw3]; exact hT
        have hS3 : SameF w w3 LQ FQ := by rw [hw3]; exact hSW.put (Or.inr (by decide))
        have e30 : w3 26 0 = (yN (w 3 0) (w 3 1) (w 3 2) (w 4) (w 5) (w 6) (w 3 3, w 3 4) n.toNat).1 := by rw [hw3, up_ne (by decide)]; exact hc1
        have e314 : w3 0 14 = sumI (fWorth (w 3 0) (w 4) (w 5) (w 6) (yN (w 3 0) (w 3 1) (w 3 2) (w 4) (w 5) (w 6) (w 3 3, w 3 4) n.toNat).1) (w 3 2) := by rw [hw3, up_eq, e3, e4, e5, e6, hc1]
        have e310 : w3 100 10 = w 100 10 := hS3 100 10 (by decide) (by decide)
        refine wp_aload_n (pc' := 1) rfl rfl rfl (by decide) ?_
        refine wp_iload_n (pc' := 2) rfl rfl rfl ?_
        refine wp_iconst (a := 0) (pc' := 3) rfl rfl rfl ?_
        refine wp_bipush (a := 40) (pc' := 5) rfl rfl rfl ?_
        refine wp_call (pc' := 8) rfl rfl rfl rfl rfl ⟨Nat.le_of_ble_eq_true rfl, Nat.le_of_ble_eq_true rfl, Nat.le_of_ble_eq_true rfl, Nat.le_of_ble_eq_true rfl, Nat.le_of_ble_eq_true rfl⟩ rfl (c_Mod_in) ?_
        rintro v1 w9 ⟨hw9, ⟨hv1, hin⟩ | ⟨hv1, hin⟩⟩
        · skip
          rw [hv1, hw9]
          clear hv1 hw9 v1 w9
          dsimp only [Option.toList, List.cons_append, List.nil_append, List.append_nil]
          refine wp_call (pc' := 11) rfl rfl rfl rfl rfl ⟨Nat.le_of_ble_eq_true rfl, Nat.le_of_ble_eq_true rfl, Nat.le_of_ble_eq_true rfl, Nat.le_of_ble_eq_true rfl, Nat.le_of_ble_eq_true rfl⟩ rfl (c_Mod_need (by decide)) ?_
          rintro v1 w9 ⟨hw9, ⟨hv1, hg1⟩ | ⟨hv1, hg1, hg2⟩ | ⟨hv1, hg1, hg2⟩⟩
          · skip
            rw [hv1, hw9]
            clear hv1 hw9 v1 w9
            dsimp only [Option.toList, List.cons_append, List.nil_append, List.append_nil]
            refine wp_istore_n (pc' := 12) rfl rfl (Nat.le_of_ble_eq_true rfl) rfl ?_
            dsimp only [lset, lset2, List.set, List.getElem?_cons_zero, List.getElem?_cons_succ]
            refine wp_iload_n (pc' := 13) rfl rfl rfl ?_
            refine wp_if_ge (pc' := 16) (pt := 18) rfl rfl rfl (fun q_187 => absurd q_187 (by decide)) (fun q_187 => ?_)
            refine wp_iload_n (pc' := 17) rfl rfl rfl ?_
            refine wp_ret rfl rfl rfl ?_
            first
            | (exfalso; omega)
            | exact ⟨rfl, rfl, hI⟩
            | (refine ⟨by rw [hc5, e30], ?_, hI.query (w' := w6) ?_ ?_⟩
               · rw [hw6, up_ne (by decide)]
                 exact (hS35.cell (-2) (by decide) (by decide)).trans (hS3.cell (-2) (by decide) (by decide)).symm
               · rw [hw6]
                 exact hS35.put (Or.inr (by decide))
               · rw [hw6, up_eq, up_ne (by decide), g10, g11, g7, g8, g9, hc5, worth_congr (K' := w 4) (H' := w 5) (G' := w 6) (fun j a b => hpr.2.2.2.2 j a b), ← e314, hS5.cell 0 (by decide) (by decide), hS4 0 (by decide)])
          · skip
            rw [hv1, hw9]
            clear hv1 hw9 v1 w9
            dsimp only [Option.toList, List.cons_append, List.nil_append, List.append_nil]
            refine wp_istore_n (pc' := 12) rfl rfl (Nat.le_of_ble_eq_true rfl) rfl ?_
            dsimp only [lset, lset2, List.set, List.getElem?_cons_zero, List.getElem?_cons_succ]
            refine wp_iload_n (pc' := 13) rfl rfl rfl ?_
            refine wp_if_ge (pc' := 16) (pt := 18) rfl rfl rfl (fun q_188 => absurd q_188 (by decide)) (fun q_188 => ?_)
            refine wp_iload_n (pc' := 17) rfl rfl rfl ?_
            refine wp_ret rfl rfl rfl ?_
            first
            | (exfalso; omega)
            | exact ⟨rfl, rfl, hI⟩
            | (refine ⟨by rw [hc5, e30], ?_, hI.query (w' := w6) ?_ ?_⟩
               · rw [hw6, up_ne (by decide)]
                 exact (hS35.cell (-2) (by decide) (by decide)).trans (hS3.cell (-2) (by decide) (by decide)).symm
               · rw [hw6]
                 exact hS35.put (Or.inr (by decide))
               · rw [hw6, up_eq, up_ne (by decide), g10, g11, g7, g8, g9, hc5, worth_congr (K' := w 4) (H' := w 5) (G' := w 6) (fun j a b => hpr.2.2.2.2 j a b), ← e314, hS5.cell 0 (by decide) (by decide), hS4 0 (by decide)])
          · skip
            rw [hv1, hw9]
            clear hv1 hw9 v1 w9
            dsimp only [Option.toList, List.cons_append, List.nil_append, List.append_nil]
            refine wp_istore_n (pc' := 12) rfl rfl (Nat.le_of_ble_eq_true rfl) rfl ?_
            dsimp only [lset, lset2, List.set, List.getElem?_cons_zero, List.getElem?_cons_succ]
            refine wp_iload_n (pc' := 13) rfl rfl rfl ?_
            refine wp_if_ge (pc' := 16) (pt := 18) rfl rfl rfl (fun q_189 => ?_) (fun q_189 => absurd (by decide) q_189)
            refine wp_aload_n (pc' := 19) rfl rfl rfl (by decide) ?_
            refine wp_call (pc' := 22) rfl rfl rfl rfl rfl ⟨Nat.le_of_ble_eq_true rfl, Nat.le_of_ble_eq_true rfl, Nat.le_of_ble_eq_true rfl, Nat.le_of_ble_eq_true rfl, Nat.le_of_ble_eq_true rfl⟩ rfl (c_Mod_copyNow hT) ?_
            rintro v1 w4 ⟨hv1, hS4, hz4⟩
            rw [hv1]
            clear hv1 v1
            have hS4Q : SameF w w4 LQ FQ := hS3.tr (qry (hS4.F []) (by decide) (by decide))
            have hT4 := hT.same hS4 (by decide)
            have f411 : w4 100 11 = w 100 11 := hS4Q 100 11 (by decide) (by decide)
            have f412 : w4 100 12 = w 100 12 := hS4Q 100 12 (by decide) (by decide)
            have f410 : w4 100 10 = w 100 10 := hS4Q 100 10 (by decide) (by decide)
            have f407 : w4 107 = w 107 := hS4Q.cell 107 (by decide) (by decide)
            have f408 : w4 108 = w 108 := hS4Q.cell 108 (by decide) (by decide)
            have f409 : w4 109 = w 109 := hS4Q.cell 109 (by decide) (by decide)
            have f39 : w3 109 = w 109 := hS3.cell 109 (by decide) (by decide)
            have hp4 : MdOK w4 := by
              unfold MdOK
              rw [f411, f412, f410, f407, f408, f409]
              exact hpr.2.1
            dsimp only [Option.toList, List.cons_append, List.nil_append, List.append_nil]
            refine wp_iconst (a := 0) (pc' := 23) rfl rfl rfl ?_
            refine wp_istore_n (pc' := 24) rfl rfl (Nat.le_of_ble_eq_true rfl) rfl ?_
            dsimp only [lset, lset2, List.set, List.getElem?_cons_zero, List.getElem?_cons_succ]
            refine l_Mthen (w := w4) (p0 := (w 3 3, w 3 4)) hT4 hp4 (by rw [f411, f412, b11, b12]; exact hpr.2.2.1) hpr.2.2.2.1 (by omega) (fun w5 hS5 hc5 => ?_) n.toNat 0 0 w4 rfl (by omega) (SameF.rf _ _ _) ⟨?_, ?_, ?_, ?_⟩
            rotate_left
            · show w4 110 0 = w 3 3
              rw [hz4 0 (by decide) (by decide), f39, m0]
            · show w4 110 1 = w 3 4
              rw [hz4 1 (by decide) (by decide), f39, m1]
            · rw [hz4 2 (by decide) (by decide), f39, m2]; omega
            · rw [hz4 2 (by decide) (by decide), f39, m2]; omega
            rw [f411, f412, f410, f407, f408, f409, b11, b12, b10, yN_congr (K' := w 4) (H' := w 5) (G' := w 6) (fun j a b => hpr.2.2.2.2 j a b)] at hc5
            have hT := hT4.sameF hS5 (by decide)
            have hS35 : SameF w w5 LQ FQ := hS4Q.tr (qry hS5 (by decide) (by decide))
            have hp5 : MdOK w5 := hp4.sameF hS5 (by decide) (by decide)
            have g11 : w5 100 11 = w 3 0 := (hS35 100 11 (by decide) (by decide)).trans b11
            have g12 : w5 100 12 = w 3 1 := (hS35 100 12 (by decide) (by decide)).trans b12
            have g10 : w5 100 10 = w 3 2 := (hS35 100 10 (by decide) (by decide)).trans b10
            have g7 : w5 107 = w 107 := hS35.cell 107 (by decide) (by decide)
            have g8 : w5 108 = w 108 := hS35.cell 108 (by decide) (by decide)
            have g9 : w5 109 = w 109 := hS35.cell 109 (by decide) (by decide)
            have hx5 : Cel (w5 100 11) (w5 100 12) (w5 110 0) := by rw [g11, g12, hc5]; exact hyo.1
            refine wp_aload_n (pc' := 44) rfl rfl rfl (by decide) ?_
            refine wp_aload_n (pc' := 45) rfl rfl rfl (by decide) ?_
            refine wp_aload_n (pc' := 46) rfl rfl rfl (by decide) ?_
            refine wp_getR (r' := 110) (ci := 10) (k0 := 16) (pc' := 49) rfl rfl (by decide) (by first | assumption | rfl) (hT.get 108 rfl) ?_
            refine wp_iconst (a := 0) (pc' := 50) rfl rfl rfl ?_
            refine wp_iaload (pc' := 51) rfl rfl (by first | assumption | rfl) (by omega) ?_
            refine wp_call (pc' := 54) rfl rfl rfl rfl rfl ⟨Nat.le_of_ble_eq_true rfl, Nat.le_of_ble_eq_true rfl, Nat.le_of_ble_eq_true rfl, Nat.le_of_ble_eq_true rfl, Nat.le_of_ble_eq_true rfl⟩ rfl (c_Mod_all hp5 hT hx5) ?_
            intro v1 w9 hq1
            rw [hq1.1, hq1.2]
            clear hq1 v1 w9
            dsimp only [Option.toList, List.cons_append, List.nil_append, List.append_nil]
            refine wp_aload_n (pc' := 55) rfl rfl rfl (by decide) ?_
            refine wp_getR (r' := 110) (ci := 10) (k0 := 16) (pc' := 58) rfl rfl (by decide) (by first | assumption | rfl) (hT.get 108 rfl) ?_
            refine wp_iconst (a := 0) (pc' := 59) rfl rfl rfl ?_
            refine wp_iaload (pc' := 60) rfl rfl (by first | assumption | rfl) (by omega) ?_
            refine wp_call (pc' := 63) rfl rfl rfl rfl rfl ⟨Nat.le_of_ble_eq_true rfl, Nat.le_of_ble_eq_true rfl, Nat.le_of_ble_eq_true rfl, Nat.le_of_ble_eq_true rfl, Nat.le_of_ble_eq_true rfl⟩ rfl (c_Mod_tells) ?_
            rintro v1 w6 ⟨hv1, hw6⟩
            rw [hv1]
            clear hv1 v1
            dsimp only [Option.toList, List.cons_append, List.nil_append, List.append_nil]
            refine wp_ret rfl rfl rfl ?_
            first
            | (exfalso; omega)
            | exact ⟨rfl, rfl, hI⟩
            | (refine ⟨by rw [hc5, e30], ?_, hI.query (w' := w6) ?_ ?_⟩
               · rw [hw6, up_ne (by decide)]
                 exact (hS35.cell (-2) (by decide) (by decide)).trans (hS3.cell (-2) (by decide) (by decide)).symm
               · rw [hw6]
                 exact hS35.put (Or.inr (by decide))
               · rw [hw6, up_eq, up_ne (by decide), g10, g11, g7, g8, g9, hc5, worth_congr (K' := w 4) (H' := w 5) (G' := w 6) (fun j a b => hpr.2.2.2.2 j a b), ← e314, hS5.cell 0 (by decide) (by decide), hS4 0 (by decide)])
        · skip
          rw [hv1, hw9]
          clear hv1 hw9 v1 w9
          dsimp only [Option.toList, List.cons_append, List.nil_append, List.append_nil]
          refine wp_call (pc' := 11) rfl rfl rfl rfl rfl ⟨Nat.le_of_ble_eq_true rfl, Nat.le_of_ble_eq_true rfl, Nat.le_of_ble_eq_true rfl, Nat.le_of_ble_eq_true rfl, Nat.le_of_ble_eq_true rfl⟩ rfl (c_Mod_need (by decide)) ?_
          rintro v1 w9 ⟨hw9, ⟨hv1, hg1⟩ | ⟨hv1, hg1, hg2⟩ | ⟨hv1, hg1, hg2⟩⟩
          · skip
            rw [hv1, hw9]
            clear hv1 hw9 v1 w9
            dsimp only [Option.toList, List.cons_append, List.nil_append, List.append_nil]
            refine wp_istore_n (pc' := 12) rfl rfl (Nat.le_of_ble_eq_true rfl) rfl ?_
            dsimp only [lset, lset2, List.set, List.getElem?_cons_zero, List.getElem?_cons_succ]
            refine wp_iload_n (pc' := 13) rfl rfl rfl ?_
            refine wp_if_ge (pc' := 16) (pt := 18) rfl rfl rfl (fun q_210 => absurd q_210 (by decide)) (fun q_210 => ?_)
            refine wp_iload_n (pc' := 17) rfl rfl rfl ?_
            refine wp_ret rfl rfl rfl ?_
            first
            | (exfalso; omega)
            | exact ⟨rfl, rfl, hI⟩
            | (refine ⟨by rw [hc5, e30], ?_, hI.query (w' := w6) ?_ ?_⟩
               · rw [hw6, up_ne (by decide)]
                 exact (hS35.cell (-2) (by decide) (by decide)).trans (hS3.cell (-2) (by decide) (by decide)).symm
               · rw [hw6]
                 exact hS35.put (Or.inr (by decide))
               · rw [hw6, up_eq, up_ne (by decide), g10, g11, g7, g8, g9, hc5, worth_congr (K' := w 4) (H' := w 5) (G' := w 6) (fun j a b => hpr.2.2.2.2 j a b), ← e314, hS5.cell 0 (by decide) (by decide), hS4 0 (by decide)])
          · skip
            rw [hv1, hw9]
            clear hv1 hw9 v1 w9
            dsimp only [Option.toList, List.cons_append, List.nil_append, List.append_nil]
            refine wp_istore_n (pc' := 12) rfl rfl (Nat.le_of_ble_eq_true rfl) rfl ?_
            dsimp only [lset, lset2, List.set, List.getElem?_cons_zero, List.getElem?_cons_succ]
            refine wp_iload_n (pc' := 13) rfl rfl rfl ?_
            refine wp_if_ge (pc' := 16) (pt := 18) rfl rfl rfl (fun q_211 => absurd q_211 (by decide)) (fun q_211 => ?_)
            refine wp_iload_n (pc' := 17) rfl rfl rfl ?_
            refine wp_ret rfl rfl rfl ?_
            first
            | (exfalso; omega)
            | exact ⟨rfl, rfl, hI⟩
            | (refine ⟨by rw [hc5, e30], ?_, hI.query (w' := w6) ?_ ?_⟩
               · rw [hw6, up_ne (by decide)]
                 exact (hS35.cell (-2) (by decide) (by decide)).trans (hS3.cell (-2) (by decide) (by decide)).symm
               · rw [hw6]
                 exact hS35.put (Or.inr (by decide))
               · rw [hw6, up_eq, up_ne (by decide), g10, g11, g7, g8, g9, hc5, worth_congr (K' := w 4) (H' := w 5) (G' := w 6) (fun j a b => hpr.2.2.2.2 j a b), ← e314, hS5.cell 0 (by decide) (by decide), hS4 0 (by decide)])
          · skip
            rw [hv1, hw9]
            clear hv1 hw9 v1 w9
            dsimp only [Option.toList, List.cons_append, List.nil_append, List.append_nil]
            refine wp_istore_n (pc' := 12) rfl rfl (Nat.le_of_ble_eq_true rfl) rfl ?_
            dsimp only [lset, lset2, List.set, List.getElem?_cons_zero, List.getElem?_cons_succ]
            refine wp_iload_n (pc' := 13) rfl rfl rfl ?_
            refine wp_if_ge (pc' := 16) (pt := 18) rfl rfl rfl (fun q_212 => ?_) (fun q_212 => absurd (by decide) q_212)
            refine wp_aload_n (pc' := 19) rfl rfl rfl (by decide) ?_
            refine wp_call (pc' := 22) rfl rfl rfl rfl rfl ⟨Nat.le_of_ble_eq_true rfl, Nat.le_of_ble_eq_true rfl, Nat.le_of_ble_eq_true rfl, Nat.le_of_ble_eq_true rfl, Nat.le_of_ble_eq_true rfl⟩ rfl (c_Mod_copyNow hT) ?_
            rintro v1 w4 ⟨hv1, hS4, hz4⟩
            rw [hv1]
            clear hv1 v1
            have hS4Q : SameF w w4 LQ FQ := hS3.tr (qry (hS4.F []) (by decide) (by decide))
            have hT4 := hT.same hS4 (by decide)
            have f411 : w4 100 11 = w 100 11 := hS4Q 100 11 (by decide) (by decide)
            have f412 : w4 100 12 = w 100 12 := hS4Q 100 12 (by decide) (by decide)
            have f410 : w4 100 10 = w 100 10 := hS4Q 100 10 (by decide) (by decide)
            have f407 : w4 107 = w 107 := hS4Q.cell 107 (by decide) (by decide)
            have f408 : w4 108 = w 108 := hS4Q.cell 108 (by decide) (by decide)
            have f409 : w4 109 = w 109 := hS4Q.cell 109 (by decide) (by decide)
            have f39 : w3 109 = w 109 := hS3.cell 109 (by decide) (by decide)
            have hp4 : MdOK w4 := by
              unfold MdOK
              rw [f411, f412, f410, f407, f408, f409]
              exact hpr.2.1
            dsimp only [Option.toList, List.cons_append, List.nil_append, List.append_nil]
            refine wp_iconst (a := 0) (pc' := 23) rfl rfl rfl ?_
            refine wp_istore_n (pc' := 24) rfl rfl (Nat.le_of_ble_eq_true rfl) rfl ?_
            dsimp only [lset, lset2, List.set, List.getElem?_cons_zero, List.getElem?_cons_succ]
            refine l_Mthen (w := w4) (p0 := (w 3 3, w 3 4)) hT4 hp4 (by rw [f411, f412, b11, b12]; exact hpr.2.2.1) hpr.2.2.2.1 (by omega) (fun w5 hS5 hc5 => ?_) n.toNat 0 0 w4 rfl (by omega) (SameF.rf _ _ _) ⟨?_, ?_, ?_, ?_⟩
            rotate_left
            · show w4 110 0 = w 3 3
              rw [hz4 0 (by decide) (by decide), f39, m0]
            · show w4 110 1 = w 3 4
              rw [hz4 1 (by decide) (by decide), f39, m1]
            · rw [hz4 2 (by decide) (by decide), f39, m2]; omega
            · rw [hz4 2 (by decide) (by decide), f39, m2]; omega
            rw [f411, f412, f410, f407, f408, f409, b11, b12, b10, yN_congr (K' := w 4) (H' := w 5) (G' := w 6) (fun j a b => hpr.2.2.2.2 j a b)] at hc5
            have hT := hT4.sameF hS5 (by decide)
            have hS35 : SameF w w5 LQ FQ := hS4Q.tr (qry hS5 (by decide) (by decide))
            have hp5 : MdOK w5 := hp4.sameF hS5 (by decide) (by decide)
            have g11 : w5 100 11 = w 3 0 := (hS35 100 11 (by decide) (by decide)).trans b11
            have g12 : w5 100 12 = w 3 1 := (hS35 100 12 (by decide) (by decide)).trans b12
            have g10 : w5 100 10 = w 3 2 := (hS35 100 10 (by decide) (by decide)).trans b10
            have g7 : w5 107 = w 107 := hS35.cell 107 (by decide) (by decide)
            have g8 : w5 108 = w 108 := hS35.cell 108 (by decide) (by decide)
            have g9 : w5 109 = w 109 := hS35.cell 109 (by decide) (by decide)
            have hx5 : Cel (w5 100 11) (w5 100 12) (w5 110 0) := by rw [g11, g12, hc5]; exact hyo.1
            refine wp_aload_n (pc' := 44) rfl rfl rfl (by decide) ?_
            refine wp_aload_n (pc' := 45) rfl rfl rfl (by decide) ?_
            refine wp_aload_n (pc' := 46) rfl rfl rfl (by decide) ?_
            refine wp_getR (r' := 110) (ci := 10) (k0 := 16) (pc' := 49) rfl rfl (by decide) (by first | assumption | rfl) (hT.get 108 rfl) ?_
            refine wp_iconst (a := 0) (pc' := 50) rfl rfl rfl ?_
            refine wp_iaload (pc' := 51) rfl rfl (by first | assumption | rfl) (by omega) ?_
            refine wp_call (pc' := 54) rfl rfl rfl rfl rfl ⟨Nat.le_of_ble_eq_true rfl, Nat.le_of_ble_eq_true rfl, Nat.le_of_ble_eq_true rfl, Nat.le_of_ble_eq_true rfl, Nat.le_of_ble_eq_true rfl⟩ rfl (c_Mod_all hp5 hT hx5) ?_
            intro v1 w9 hq1
            rw [hq1.1, hq1.2]
            clear hq1 v1 w9
            dsimp only [Option.toList, List.cons_append, List.nil_append, List.append_nil]
            refine wp_aload_n (pc' := 55) rfl rfl rfl (by decide) ?_
            refine wp_getR (r' := 110) (ci := 10) (k0 := 16) (pc' := 58) rfl rfl (by decide) (by first | assumption | rfl) (hT.get 108 rfl) ?_
            refine wp_iconst (a := 0) (pc' := 59) rfl rfl rfl ?_
            refine wp_iaload (pc' := 60) rfl rfl (by first | assumption | rfl) (by omega) ?_
            refine wp_call (pc' := 63) rfl rfl rfl rfl rfl ⟨Nat.le_of_ble_eq_true rfl, Nat.le_of_ble_eq_true rfl, Nat.le_of_ble_eq_true rfl, Nat.le_of_ble_eq_true rfl, Nat.le_of_ble_eq_true rfl⟩ rfl (c_Mod_tells) ?_
            rintro v1 w6 ⟨hv1, hw6⟩
            rw [hv1]
            clear hv1 v1
            dsimp only [Option.toList, List.cons_append, List.nil_append, List.append_nil]
            refine wp_ret rfl rfl rfl ?_
            first
            | (exfalso; omega)
            | exact ⟨rfl, rfl, hI⟩
            | (refine ⟨by rw [hc5, e30], ?_, hI.query (w' := w6) ?_ ?_⟩
               · rw [hw6, up_ne (by decide)]
                 exact (hS35.cell (-2) (by decide) (by decide)).trans (hS3.cell (-2) (by decide) (by decide)).symm
               · rw [hw6]
                 exact hS35.put (Or.inr (by decide))
               · rw [hw6, up_eq, up_ne (by decide), g10, g11, g7, g8, g9, hc5, worth_congr (K' := w 4) (H' := w 5) (G' := w 6) (fun j a b => hpr.2.2.2.2 j a b), ← e314, hS5.cell 0 (by decide) (by decide), hS4 0 (by decide)])
    · skip
      refine wp_iconst (a := -1) (pc' := 11) rfl rfl rfl ?_
      refine wp_ret rfl rfl rfl ?_
      refine ⟨_, rfl, ?_, ?_⟩
      · rfl
      refine wp_aload_n (pc' := 1) rfl rfl rfl (by decide) ?_
      refine wp_iload_n (pc' := 2) rfl rfl rfl ?_
      refine wp_iconst (a := 0) (pc' := 3) rfl rfl rfl ?_
      refine wp_bipush (a := 40) (pc' := 5) rfl rfl rfl ?_
      refine wp_call (pc' := 8) rfl rfl rfl rfl rfl ⟨Nat.le_of_ble_eq_true rfl, Nat.le_of_ble_eq_true rfl, Nat.le_of_ble_eq_true rfl, Nat.le_of_ble_eq_true rfl, Nat.le_of_ble_eq_true rfl⟩ rfl (c_Mod_in) ?_
      rintro v1 w9 ⟨hw9, ⟨hv1, hin⟩ | ⟨hv1, hin⟩⟩
      · skip
        rw [hv1, hw9]
        clear hv1 hw9 v1 w9
        dsimp only [Option.toList, List.cons_append, List.nil_append, List.append_nil]
        refine wp_call (pc' := 11) rfl rfl rfl rfl rfl ⟨Nat.le_of_ble_eq_true rfl, Nat.le_of_ble_eq_true rfl, Nat.le_of_ble_eq_true rfl, Nat.le_of_ble_eq_true rfl, Nat.le_of_ble_eq_true rfl⟩ rfl (c_Mod_need (by decide)) ?_
        rintro v1 w9 ⟨hw9, ⟨hv1, hg1⟩ | ⟨hv1, hg1, hg2⟩ | ⟨hv1, hg1, hg2⟩⟩
        · skip
          rw [hv1, hw9]
          clear hv1 hw9 v1 w9
          dsimp only [Option.toList, List.cons_append, List.nil_append, List.append_nil]
          refine wp_istore_n (pc' := 12) rfl rfl (Nat.le_of_ble_eq_true rfl) rfl ?_
          dsimp only [lset, lset2, List.set, List.getElem?_cons_zero, List.getElem?_cons_succ]
          refine wp_iload_n (pc' := 13) rfl rfl rfl ?_
          refine wp_if_ge (pc' := 16) (pt := 18) rfl rfl rfl (fun q_283 => absurd q_283 (by decide)) (fun q_283 => ?_)
          refine wp_iload_n (pc' := 17) rfl rfl rfl ?_
          refine wp_ret rfl rfl rfl ?_
          first
          | (exfalso; omega)
          | exact ⟨rfl, rfl, hI⟩
          | (refine ⟨by rw [hc5, e30], ?_, hI.query (w' := w6) ?_ ?_⟩
             · rw [hw6, up_ne (by decide)]
               exact (hS35.cell (-2) (by decide) (by decide)).trans (hS3.cell (-2) (by decide) (by decide)).symm
             · rw [hw6]
               exact hS35.put (Or.inr (by decide))
             · rw [hw6, up_eq, up_ne (by decide), g10, g11, g7, g8, g9, hc5, worth_congr (K' := w 4) (H' := w 5) (G' := w 6) (fun j a b => hpr.2.2.2.2 j a b), ← e314, hS5.cell 0 (by decide) (by decide), hS4 0 (by decide)])
        · skip
          rw [hv1, hw9]
          clear hv1 hw9 v1 w9
          dsimp only [Option.toList, List.cons_append, List.nil_append, List.append_nil]
          refine wp_istore_n (pc' := 12) rfl rfl (Nat.le_of_ble_eq_true rfl) rfl ?_
          dsimp only [lset, lset2, List.set, List.getElem?_cons_zero, List.getElem?_cons_succ]
          refine wp_iload_n (pc' := 13) rfl rfl rfl ?_
          refine wp_if_ge (pc' := 16) (pt := 18) rfl rfl rfl (fun q_284 => absurd q_284 (by decide)) (fun q_284 => ?_)
          refine wp_iload_n (pc' := 17) rfl rfl rfl ?_
          refine wp_ret rfl rfl rfl ?_
          first
          | (exfalso; omega)
          | exact ⟨rfl, rfl, hI⟩
          | (refine ⟨by rw [hc5, e30], ?_, hI.query (w' := w6) ?_ ?_⟩
             · rw [hw6, up_ne (by decide)]
               exact (hS35.cell (-2) (by decide) (by decide)).trans (hS3.cell (-2) (by decide) (by decide)).symm
             · rw [hw6]
               exact hS35.put (Or.inr (by decide))
             · rw [hw6, up_eq, up_ne (by decide), g10, g11, g7, g8, g9, hc5, worth_congr (K' := w 4) (H' := w 5) (G' := w 6) (fun j a b => hpr.2.2.2.2 j a b), ← e314, hS5.cell 0 (by decide) (by decide), hS4 0 (by decide)])
        · skip
          rw [hv1, hw9]
          clear hv1 hw9 v1 w9
          dsimp only [Option.toList, List.cons_append, List.nil_append, List.append_nil]
          refine wp_istore_n (pc' := 12) rfl rfl (Nat.le_of_ble_eq_true rfl) rfl ?_
          dsimp only [lset, lset2, List.set, List.getElem?_cons_zero, List.getElem?_cons_succ]
          refine wp_iload_n (pc' := 13) rfl rfl rfl ?_
          refine wp_if_ge (pc' := 16) (pt := 18) rfl rfl rfl (fun q_285 => ?_) (fun q_285 => absurd (by decide) q_285)
          exfalso; omega
      · skip
        rw [hv1, hw9]
        clear hv1 hw9 v1 w9
        dsimp only [Option.toList, List.cons_append, List.nil_append, List.append_nil]
        refine wp_call (pc' := 11) rfl rfl rfl rfl rfl ⟨Nat.le_of_ble_eq_true rfl, Nat.le_of_ble_eq_true rfl, Nat.le_of_ble_eq_true rfl, Nat.le_of_ble_eq_true rfl, Nat.le_of_ble_eq_true rfl⟩ rfl (c_Mod_need (by decide)) ?_
        rintro v1 w9 ⟨hw9, ⟨hv1, hg1⟩ | ⟨hv1, hg1, hg2⟩ | ⟨hv1, hg1, hg2⟩⟩
        · skip
          rw [hv1, hw9]
          clear hv1 hw9 v1 w9
          dsimp only [Option.toList, List.cons_append, List.nil_append, List.append_nil]
          refine wp_istore_n (pc' := 12) rfl rfl (Nat.le_of_ble_eq_true rfl) rfl ?_
          dsimp only [lset, lset2, List.set, List.getElem?_cons_zero, List.getElem?_cons_succ]
          refine wp_iload_n (pc' := 13) rfl rfl rfl ?_
          refine wp_if_ge (pc' := 16) (pt := 18) rfl rfl rfl (fun q_286 => absurd q_286 (by decide)) (fun q_286 => ?_)
          refine wp_iload_n (pc' := 17) rfl rfl rfl ?_
          refine wp_ret rfl rfl rfl ?_
          first
          | (exfalso; omega)
          | exact ⟨rfl, rfl, hI⟩
          | (refine ⟨by rw [hc5, e30], ?_, hI.query (w' := w6) ?_ ?_⟩
             · rw [hw6, up_ne (by decide)]
               exact (hS35.cell (-2) (by decide) (by decide)).trans (hS3.cell (-2) (by decide) (by decide)).symm
             · rw [hw6]
               exact hS35.put (Or.inr (by decide))
             · rw [hw6, up_eq, up_ne (by decide), g10, g11, g7, g8, g9, hc5, worth_congr (K' := w 4) (H' := w 5) (G' := w 6) (fun j a b => hpr.2.2.2.2 j a b), ← e314, hS5.cell 0 (by decide) (by decide), hS4 0 (by decide)])
        · skip
          rw [hv1, hw9]
          clear hv1 hw9 v1 w9
          dsimp only [Option.toList, List.cons_append, List.nil_append, List.append_nil]
          refine wp_istore_n (pc' := 12) rfl rfl (Nat.le_of_ble_eq_true rfl) rfl ?_
          dsimp only [lset, lset2, List.set, List.getElem?_cons_zero, List.getElem?_cons_succ]
          refine wp_iload_n (pc' := 13) rfl rfl rfl ?_
          refine wp_if_ge (pc' := 16) (pt := 18) rfl rfl rfl (fun q_287 => absurd q_287 (by decide)) (fun q_287 => ?_)
          refine wp_iload_n (pc' := 17) rfl rfl rfl ?_
          refine wp_ret rfl rfl rfl ?_
          first
          | (exfalso; omega)
          | exact ⟨rfl, rfl, hI⟩
          | (refine ⟨by rw [hc5, e30], ?_, hI.query (w' := w6) ?_ ?_⟩
             · rw [hw6, up_ne (by decide)]
               exact (hS35.cell (-2) (by decide) (by decide)).trans (hS3.cell (-2) (by decide) (by decide)).symm
             · rw [hw6]
               exact hS35.put (Or.inr (by decide))
             · rw [hw6, up_eq, up_ne (by decide), g10, g11, g7, g8, g9, hc5, worth_congr (K' := w 4) (H' := w 5) (G' := w 6) (fun j a b => hpr.2.2.2.2 j a b), ← e314, hS5.cell 0 (by decide) (by decide), hS4 0 (by decide)])
        · skip
          rw [hv1, hw9]
          clear hv1 hw9 v1 w9
          dsimp only [Option.toList, List.cons_append, List.nil_append, List.append_nil]
          refine wp_istore_n (pc' := 12) rfl rfl (Nat.le_of_ble_eq_true rfl) rfl ?_
          dsimp only [lset, lset2, List.set, List.getElem?_cons_zero, List.getElem?_cons_succ]
          refine wp_iload_n (pc' := 13) rfl rfl rfl ?_
          refine wp_if_ge (pc' := 16) (pt := 18) rfl rfl rfl (fun q_288 => ?_) (fun q_288 => absurd (by decide) q_288)
          exfalso; omega
