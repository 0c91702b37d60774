/-! buy, the public call -/
set_option maxRecDepth 20000 in
set_option maxHeartbeats 4000000 in
theorem p_buy {w : Hp} {d : Nat} {way : Int} (hI : Inv w) : WP SH (d + 9) 101 0 [some (vR 0), some (vI way), none] [] w (fun v0 w1 => ∃ a, v0 = some (vI a) ∧ w1 (-2) = w (-2) ∧ WP SH (d + 9) 201 0 [some (vR 100), some (vI way), none, none, none, none] [] w1 (fun v2 w2 => v2 = some (vI a) ∧ w2 (-2) = w1 (-2) ∧ Inv w2)) := by
  obtain ⟨hT, hRO, hIF, hITo, hIR, hIT, hIL, hIK⟩ := id hI
  obtain ⟨hn25, b11, b12, b10, hn6, hem, m0, m1, m2, m23, hyr, hdd, hpre⟩ := hI.base
  have hmm : w 100 11 * w 100 12 = w 3 0 * w 3 1 := by rw [b11, b12]
  refine wp_iload_n (pc' := 1) rfl rfl rfl ?_
  refine wp_call (pc' := 4) rfl rfl rfl rfl rfl ⟨Nat.le_of_ble_eq_true rfl, Nat.le_of_ble_eq_true rfl, Nat.le_of_ble_eq_true rfl, Nat.le_of_ble_eq_true rfl, Nat.le_of_ble_eq_true rfl⟩ rfl (c_VH_isWay) ?_
  rintro v1 w9 ⟨hw9, ⟨hv1, hway⟩ | ⟨hv1, hway⟩⟩
  · skip
    rw [hv1, hw9]
    clear hv1 hw9 v1 w9
    dsimp only [Option.toList, List.cons_append, List.nil_append, List.append_nil]
    refine wp_if_ne (pc' := 7) (pt := 9) rfl rfl rfl (fun q_1 => ?_) (fun q_1 => absurd (by decide) q_1)
    refine wp_aload_n (pc' := 10) rfl rfl rfl (by decide) ?_
    refine wp_getR (r' := 3) (ci := 9) (k0 := 2) (pc' := 13) rfl rfl (by decide) (by first | assumption | rfl) (hT.get 2 rfl) ?_
    refine wp_call (pc' := 16) rfl rfl rfl rfl rfl ⟨Nat.le_of_ble_eq_true rfl, Nat.le_of_ble_eq_true rfl, Nat.le_of_ble_eq_true rfl, Nat.le_of_ble_eq_true rfl, Nat.le_of_ble_eq_true rfl⟩ rfl (c_Land_isEmpty_3) ?_
    rintro v1 w9 ⟨hw9, ⟨hv1, he⟩ | ⟨hv1, he⟩⟩
    · skip
      rw [hv1, hw9]
      clear hv1 hw9 v1 w9
      dsimp only [Option.toList, List.cons_append, List.nil_append, List.append_nil]
      refine wp_if_eq (pc' := 19) (pt := 22) rfl rfl rfl (fun q_2 => absurd q_2 (by decide)) (fun q_2 => ?_)
      refine wp_bipush (a := -4) (pc' := 21) rfl rfl rfl ?_
      refine wp_ret rfl rfl rfl ?_
      refine ⟨_, rfl, ?_, ?_⟩
      · rfl
      refine wp_aload_n (pc' := 1) rfl rfl rfl (by decide) ?_
      refine wp_iload_n (pc' := 2) rfl rfl rfl ?_
      refine wp_iconst (a := 0) (pc' := 3) rfl rfl rfl ?_
      refine wp_iconst (a := 4) (pc' := 4) rfl rfl rfl ?_
      refine wp_call (pc' := 7) rfl rfl rfl rfl rfl ⟨Nat.le_of_ble_eq_true rfl, Nat.le_of_ble_eq_true rfl, Nat.le_of_ble_eq_true rfl, Nat.le_of_ble_eq_true rfl, Nat.le_of_ble_eq_true rfl⟩ rfl (c_Mod_in) ?_
      rintro v1 w9 ⟨hw9, ⟨hv1, hin⟩ | ⟨hv1, hin⟩⟩
      · skip
        rw [hv1, hw9]
        clear hv1 hw9 v1 w9
        dsimp only [Option.toList, List.cons_append, List.nil_append, List.append_nil]
        refine wp_call (pc' := 10) rfl rfl rfl rfl rfl ⟨Nat.le_of_ble_eq_true rfl, Nat.le_of_ble_eq_true rfl, Nat.le_of_ble_eq_true rfl, Nat.le_of_ble_eq_true rfl, Nat.le_of_ble_eq_true rfl⟩ rfl (c_Mod_need (by decide)) ?_
        rintro v1 w9 ⟨hw9, ⟨hv1, hg1⟩ | ⟨hv1, hg1, hg2⟩ | ⟨hv1, hg1, hg2⟩⟩
        · skip
          rw [hv1, hw9]
          clear hv1 hw9 v1 w9
          dsimp only [Option.toList, List.cons_append, List.nil_append, List.append_nil]
          refine wp_istore_n (pc' := 11) rfl rfl (Nat.le_of_ble_eq_true rfl) rfl ?_
          dsimp only [lset, lset2, List.set, List.getElem?_cons_zero, List.getElem?_cons_succ]
          refine wp_iload_n (pc' := 12) rfl rfl rfl ?_
          refine wp_if_ge (pc' := 15) (pt := 17) rfl rfl rfl (fun q_53 => absurd q_53 (by decide)) (fun q_53 => ?_)
          refine wp_iload_n (pc' := 16) rfl rfl rfl ?_
          refine wp_ret rfl rfl rfl ?_
          first
          | (exfalso; omega)
          | exact ⟨rfl, rfl, hI⟩
        · skip
          rw [hv1, hw9]
          clear hv1 hw9 v1 w9
          dsimp only [Option.toList, List.cons_append, List.nil_append, List.append_nil]
          refine wp_istore_n (pc' := 11) rfl rfl (Nat.le_of_ble_eq_true rfl) rfl ?_
          dsimp only [lset, lset2, List.set, List.getElem?_cons_zero, List.getElem?_cons_succ]
          refine wp_iload_n (pc' := 12) rfl rfl rfl ?_
          refine wp_if_ge (pc' := 15) (pt := 17) rfl rfl rfl (fun q_54 => absurd q_54 (by decide)) (fun q_54 => ?_)
          refine wp_iload_n (pc' := 16) rfl rfl rfl ?_
          refine wp_ret rfl rfl rfl ?_
          first
          | (exfalso; omega)
          | exact ⟨rfl, rfl, hI⟩
        · skip
          rw [hv1, hw9]
          clear hv1 hw9 v1 w9
          dsimp only [Option.toList, List.cons_append, List.nil_append, List.append_nil]
          refine wp_istore_n (pc' := 11) rfl rfl (Nat.le_of_ble_eq_true rfl) rfl ?_
          dsimp only [lset, lset2, List.set, List.getElem?_cons_zero, List.getElem?_cons_succ]
          refine wp_iload_n (pc' := 12) rfl rfl rfl ?_
          refine wp_if_ge (pc' := 15) (pt := 17) rfl rfl rfl (fun q_55 => ?_) (fun q_55 => absurd (by decide) q_55)
          exfalso; omega
      · skip
        rw [hv1, hw9]
        clear hv1 hw9 v1 w9
        dsimp only [Option.toList, List.cons_append, List.nil_append, List.append_nil]
        refine wp_call (pc' := 10) rfl rfl rfl rfl rfl ⟨Nat.le_of_ble_eq_true rfl, Nat.le_of_ble_eq_true rfl, Nat.le_of_ble_eq_true rfl, Nat.le_of_ble_eq_true rfl, Nat.le_of_ble_eq_true rfl⟩ rfl (c_Mod_need (by decide)) ?_
        rintro v1 w9 ⟨hw9, ⟨hv1, hg1⟩ | ⟨hv1, hg1, hg2⟩ | ⟨hv1, hg1, hg2⟩⟩
        · skip
          rw [hv1, hw9]
          clear hv1 hw9 v1 w9
          dsimp only [Option.toList, List.cons_append, List.nil_append, List.append_nil]
          refine wp_istore_n (pc' := 11) rfl rfl (Nat.le_of_ble_eq_true rfl) rfl ?_
          dsimp only [lset, lset2, List.set, List.getElem?_cons_zero, List.getElem?_cons_succ]
          refine wp_iload_n (pc' := 12) rfl rfl rfl ?_
          refine wp_if_ge (pc' := 15) (pt := 17) rfl rfl rfl (fun q_56 => absurd q_56 (by decide)) (fun q_56 => ?_)
          refine wp_iload_n (pc' := 16) rfl rfl rfl ?_
          refine wp_ret rfl rfl rfl ?_
          first
          | (exfalso; omega)
          | exact ⟨rfl, rfl, hI⟩
        · skip
          rw [hv1, hw9]
          clear hv1 hw9 v1 w9
          dsimp only [Option.toList, List.cons_append, List.nil_append, List.append_nil]
          refine wp_istore_n (pc' := 11) rfl rfl (Nat.le_of_ble_eq_true rfl) rfl ?_
          dsimp only [lset, lset2, List.set, List.getElem?_cons_zero, List.getElem?_cons_succ]
          refine wp_iload_n (pc' := 12) rfl rfl rfl ?_
          refine wp_if_ge (pc' := 15) (pt := 17) rfl rfl rfl (fun q_57 => absurd q_57 (by decide)) (fun q_57 => ?_)
          refine wp_iload_n (pc' := 16) rfl rfl rfl ?_
          refine wp_ret rfl rfl rfl ?_
          first
          | (exfalso; omega)
          | exact ⟨rfl, rfl, hI⟩
        · skip
          rw [hv1, hw9]
          clear hv1 hw9 v1 w9
          dsimp only [Option.toList, List.cons_append, List.nil_append, List.append_nil]
          refine wp_istore_n (pc' := 11) rfl rfl (Nat.le_of_ble_eq_true rfl) rfl ?_
          dsimp only [lset, lset2, List.set, List.getElem?_cons_zero, List.getElem?_cons_succ]
          refine wp_iload_n (pc' := 12) rfl rfl rfl ?_
          refine wp_if_ge (pc' := 15) (pt := 17) rfl rfl rfl (fun q_58 => ?_) (fun q_58 => absurd (by decide) q_58)
          exfalso; omega
    · skip
      rw [hv1, hw9]
      clear hv1 hw9 v1 w9
      have hpr := hpre (by omega)
      have hn0 : w 3 2 ≠ 0 := by omega
      dsimp only [Option.toList, List.cons_append, List.nil_append, List.append_nil]
      refine wp_if_eq (pc' := 19) (pt := 22) rfl rfl rfl (fun q_59 => ?_) (fun q_59 => absurd (by decide) q_59)
      refine wp_aload_n (pc' := 23) rfl rfl rfl (by decide) ?_
      refine wp_getR (r' := 3) (ci := 9) (k0 := 2) (pc' := 26) rfl rfl (by decide) (by first | assumption | rfl) (hT.get 2 rfl) ?_
      refine wp_aload_n (pc' := 27) rfl rfl rfl (by decide) ?_
      refine wp_getR (r' := 3) (ci := 9) (k0 := 2) (pc' := 30) rfl rfl (by decide) (by first | assumption | rfl) (hT.get 2 rfl) ?_
      refine wp_getI (ci := 3) (k0 := 3) (pc' := 33) rfl rfl (by decide) (by first | assumption | rfl) ?_
      refine wp_aload_n (pc' := 34) rfl rfl rfl (by decide) ?_
      refine wp_getR (r' := 3) (ci := 9) (k0 := 2) (pc' := 37) rfl rfl (by decide) (by first | assumption | rfl) (hT.get 2 rfl) ?_
      refine wp_getI (ci := 3) (k0 := 4) (pc' := 40) rfl rfl (by decide) (by first | assumption | rfl) ?_
      refine wp_iload_n (pc' := 41) rfl rfl rfl ?_
      refine wp_call (pc' := 44) rfl rfl rfl rfl rfl ⟨Nat.le_of_ble_eq_true rfl, Nat.le_of_ble_eq_true rfl, Nat.le_of_ble_eq_true rfl, Nat.le_of_ble_eq_true rfl, Nat.le_of_ble_eq_true rfl⟩ rfl (c_Land_canGo hpr.1.1 hpr.2.2.1) ?_
      rintro v1 w9 ⟨hw9, ⟨hv1, hcan⟩ | ⟨hv1, hcan⟩⟩
      · skip
        rw [hv1, hw9]
        clear hv1 hw9 v1 w9
        dsimp only [Option.toList, List.cons_append, List.nil_append, List.append_nil]
        refine wp_if_ne (pc' := 47) (pt := 50) rfl rfl rfl (fun q_60 => ?_) (fun q_60 => absurd (by decide) q_60)
        refine wp_aload_n (pc' := 51) rfl rfl rfl (by decide) ?_
        refine wp_getR (r' := 23) (ci := 9) (k0 := 6) (pc' := 54) rfl rfl (by decide) (by first | assumption | rfl) (hT.get 6 rfl) ?_
        refine wp_aload_n (pc' := 55) rfl rfl rfl (by decide) ?_
        refine wp_getR (r' := 3) (ci := 9) (k0 := 2) (pc' := 58) rfl rfl (by decide) (by first | assumption | rfl) (hT.get 2 rfl) ?_
        refine wp_aload_n (pc' := 59) rfl rfl rfl (by decide) ?_
        refine wp_getR (r' := 3) (ci := 9) (k0 := 2) (pc' := 62) rfl rfl (by decide) (by first | assumption | rfl) (hT.get 2 rfl) ?_
        refine wp_getI (ci := 3) (k0 := 3) (pc' := 65) rfl rfl (by decide) (by first | assumption | rfl) ?_
        refine wp_aload_n (pc' := 66) rfl rfl rfl (by decide) ?_
        refine wp_getR (r' := 3) (ci := 9) (k0 := 2) (pc' := 69) rfl rfl (by decide) (by first | assumption | rfl) (hT.get 2 rfl) ?_
        refine wp_getI (ci := 3) (k0 := 4) (pc' := 72) rfl rfl (by decide) (by first | assumption | rfl) ?_
        refine wp_call (pc' := 75) rfl rfl rfl rfl rfl ⟨Nat.le_of_ble_eq_true rfl, Nat.le_of_ble_eq_true rfl, Nat.le_of_ble_eq_true rfl, Nat.le_of_ble_eq_true rfl, Nat.le_of_ble_eq_true rfl⟩ rfl (c_Ballot_hold hT hRO hpr.1 hpr.2.2.1) ?_
        rintro v1 w1 ⟨hv1, hS1, hc1, hz1⟩
        rw [hv1]
        clear hv1 v1
        have hQ1 : SameF w w1 LQ FQ := qry (hS1.F []) (by decide) (by decide)
        obtain ⟨hT, hr1, hl1, hm1, e31, e41, e51, e61, g111, g121, g101, g71, g81, g91, hx1⟩ := vw hI hn0 hQ1
        dsimp only [Option.toList, List.cons_append, List.nil_append, List.append_nil]
        refine wp_aload_n (pc' := 76) rfl rfl rfl (by decide) ?_
        refine wp_getR (r' := 23) (ci := 9) (k0 := 6) (pc' := 79) rfl rfl (by decide) (by first | assumption | rfl) (hT.get 6 rfl) ?_
        refine wp_aload_n (pc' := 80) rfl rfl rfl (by decide) ?_
        refine wp_getR (r' := 3) (ci := 9) (k0 := 2) (pc' := 83) rfl rfl (by decide) (by first | assumption | rfl) (hT.get 2 rfl) ?_
        refine wp_iload_n (pc' := 84) rfl rfl rfl ?_
        refine wp_call (pc' := 87) rfl rfl rfl rfl rfl ⟨Nat.le_of_ble_eq_true rfl, Nat.le_of_ble_eq_true rfl, Nat.le_of_ble_eq_true rfl, Nat.le_of_ble_eq_true rfl, Nat.le_of_ble_eq_true rfl⟩ rfl (c_Ballot_cheapest hT hl1.2.1 (fun j a b => (hl1.2.2 j a b).2.2)) ?_
        rintro v1 w2 ⟨hv1, hS2⟩
        rw [hv1]
        clear hv1 v1
        rw [e31, e61, bySt_congr (C' := (fVote (w 3 0) (w 3 1) (w 4) (w 5) (w 3 3) (w 3 4))) (G' := w 6) (fun j a b => ⟨hc1 j a b, rfl⟩)]
        have hQ2 : SameF w w2 LQ FQ := hQ1.tr (qry (hS2.F []) (by decide) (by decide))
        have hsh := shl1 hpr.1.2.1
        have hok := @bySt_ok (w 3 2) way (fVote (w 3 0) (w 3 1) (w 4) (w 5) (w 3 3) (w 3 4)) (w 6) (by omega) hpr.1.2.1.2 (fun j a b => (hpr.1.2.2 j a b).2.2) (iShl 1 (w 3 2)).toNat
        obtain ⟨hT, hr2, hl2, hm2, e32, e42, e52, e62, g112, g122, g102, g72, g82, g92, hx2⟩ := vw hI hn0 hQ2
        dsimp only [Option.toList, List.cons_append, List.nil_append, List.append_nil]
        refine wp_istore_n (pc' := 88) rfl rfl (Nat.le_of_ble_eq_true rfl) rfl ?_
        dsimp only [lset, lset2, List.set, List.getElem?_cons_zero, List.getElem?_cons_succ]
        refine wp_iload_n (pc' := 89) rfl rfl rfl ?_
        refine wp_bipush (a := -9) (pc' := 91) rfl rfl rfl ?_
        refine wp_icmp_ne (pc' := 94) (pt := 97) rfl rfl rfl (fun q_61 => ?_) (fun q_61 => ?_)
        · skip
          refine wp_aload_n (pc' := 98) rfl rfl rfl (by decide) ?_
          refine wp_iload_n (pc' := 99) rfl rfl rfl ?_
          refine wp_putI (ci := 9) (k0 := 14) (pc' := 102) rfl rfl (by decide) (by first | assumption | rfl) ?_
          refine wp_stc (hT.putF (by decide)) (fun hT => ?_)
          refine wp_aload_n (pc' := 103) rfl rfl rfl (by decide) ?_
          refine wp_getR (r' := 3) (ci := 9) (k0 := 2) (pc' := 106) rfl rfl (by decide) (by first | assumption | rfl) (hT.get 2 rfl) ?_
          refine wp_iload_n (pc' := 107) rfl rfl rfl ?_
          refine wp_call (pc' := 110) rfl rfl rfl rfl rfl ⟨Nat.le_of_ble_eq_true rfl, Nat.le_of_ble_eq_true rfl, Nat.le_of_ble_eq_true rfl, Nat.le_of_ble_eq_true rfl, Nat.le_of_ble_eq_true rfl⟩ rfl (c_Land_hearthsOf hT (by rw [up_ne (by decide)]; have := hl2.2.1; omega) (by rw [up_ne (by decide), up_ne (by decide)]; exact (fun j a b => (hl2.2.2 j a b).2.2))) ?_
          intro v1 w9 hq1
          rw [hq1.1, hq1.2]
          clear hq1 v1 w9
          rw [up_ne (show (6 : Int) ≠ 0 by decide), up_ne (show (3 : Int) ≠ 0 by decide), e32, e62]
          dsimp only [Option.toList, List.cons_append, List.nil_append, List.append_nil]
          refine wp_ret rfl rfl rfl ?_
          refine ⟨_, rfl, ?_, ?_⟩
          · rw [up_ne (by decide)]; exact hQ2.cell (-2) (by decide) (by decide)
          have hQ3 : SameF w (up w2 0 14 (bySt (w 3 2) way (fVote (w 3 0) (w 3 1) (w 4) (w 5) (w 3 3) (w 3 4)) (w 6) (iShl 1 (w 3 2)).toNat).1) LQ FQ := hQ2.put (Or.inr (by decide))
          obtain ⟨w3, hw3⟩ : ∃ w3, w3 = up w2 0 14 (bySt (w 3 2) way (fVote (w 3 0) (w 3 1) (w 4) (w 5) (w 3 3) (w 3 4)) (w 6) (iShl 1 (w 3 2)).toNat).1 := ⟨_, rfl⟩
          rw [← hw3]
          rw [← hw3] at hQ3
          have e314 : w3 0 14 = (bySt (w 3 2) way (fVote (w 3 0) (w 3 1) (w 4) (w 5) (w 3 3) (w 3 4)) (w 6) (iShl 1 (w 3 2)).toNat).1 := by rw [hw3, up_eq]
          obtain ⟨hT, hr3, hl3, hm3, e33, e43, e53, e63, g113, g123, g103, g73, g83, g93, hx3⟩ := vw hI hn0 hQ3
          refine wp_aload_n (pc' := 1) rfl rfl rfl (by decide) ?_
          refine wp_iload_n (pc' := 2) rfl rfl rfl ?_
          refine wp_iconst (a := 0) (pc' := 3) rfl rfl rfl ?_
          refine wp_iconst (a := 4) (pc' := 4) rfl rfl rfl ?_
          refine wp_call (pc' := 7) rfl rfl rfl rfl rfl ⟨Nat.le_of_ble_eq_true rfl, Nat.le_of_ble_eq_true rfl, Nat.le_of_ble_eq_true rfl, Nat.le_of_ble_eq_true rfl, Nat.le_of_ble_eq_true rfl⟩ rfl (c_Mod_in) ?_
          rintro v1 w9 ⟨hw9, ⟨hv1, hin⟩ | ⟨hv1, hin⟩⟩
          · skip
            rw [hv1, hw9]
            clear hv1 hw9 v1 w9
            dsimp only [Option.toList, List.cons_append, List.nil_append, List.append_nil]
            refine wp_call (pc' := 10) rfl rfl rfl rfl rfl ⟨Nat.le_of_ble_eq_true rfl, Nat.le_of_ble_eq_true rfl, Nat.le_of_ble_eq_true rfl, Nat.le_of_ble_eq_true rfl, Nat.le_of_ble_eq_true rfl⟩ rfl (c_Mod_need (by decide)) ?_
            rintro v1 w9 ⟨hw9, ⟨hv1, hg1⟩ | ⟨hv1, hg1, hg2⟩ | ⟨hv1, hg1, hg2⟩⟩
            · skip
              rw [hv1, hw9]
              clear hv1 hw9 v1 w9
              dsimp only [Option.toList, List.cons_append, List.nil_append, List.append_nil]
              refine wp_istore_n (pc' := 11) rfl rfl (Nat.le_of_ble_eq_true rfl) rfl ?_
              dsimp only [lset, lset2, List.set, List.getElem?_cons_zero, List.getElem?_cons_succ]
              refine wp_iload_n (pc' := 12) rfl rfl rfl ?_
              refine wp_if_ge (pc' := 15) (pt := 17) rfl rfl rfl (fun q_112 => absurd q_112 (by decide)) (fun q_112 => ?_)
              refine wp_iload_n (pc' := 16) rfl rfl rfl ?_
              refine wp_ret rfl rfl rfl ?_
              first
              | (exfalso; omega)
              | exact ⟨rfl, rfl, hI⟩
            · skip
              rw [hv1, hw9]
              clear hv1 hw9 v1 w9
              dsimp only [Option.toList, List.cons_append, List.nil_append, List.append_nil]
              refine wp_istore_n (pc' := 11) rfl rfl (Nat.le_of_ble_eq_true rfl) rfl ?_
              dsimp only [lset, lset2, List.set, List.getElem?_cons_zero, List.getElem?_cons_succ]
              refine wp_iload_n (pc' := 12) rfl rfl rfl ?_
              refine wp_if_ge (pc' := 15) (pt := 17) rfl rfl rfl (fun q_113 => absurd q_113 (by decide)) (fun q_113 => ?_)
              refine wp_iload_n (pc' := 16) rfl rfl rfl ?_
              refine wp_ret rfl rfl rfl ?_
              first
              | (exfalso; omega)
              | exact ⟨rfl, rfl, hI⟩
            · skip
              rw [hv1, hw9]
              clear hv1 hw9 v1 w9
              dsimp only [Option.toList, List.cons_append, List.nil_append, List.append_nil]
              refine wp_istore_n (pc' := 11) rfl rfl (Nat.le_of_ble_eq_true rfl) rfl ?_
              dsimp only [lset, lset2, List.set, List.getElem?_cons_zero, List.getElem?_cons_succ]
              refine wp_iload_n (pc' := 12) rfl rfl rfl ?_
              refine wp_if_ge (pc' := 15) (pt := 17) rfl rfl rfl (fun q_114 => ?_) (fun q_114 => absurd (by decide) q_114)
              refine wp_aload_n (pc' := 18) rfl rfl rfl (by decide) ?_
              refine wp_aload_n (pc' := 19) rfl rfl rfl (by decide) ?_
              refine wp_getR (r' := 109) (ci := 10) (k0 := 15) (pc' := 22) rfl rfl (by decide) (by first | assumption | rfl) (hT.get 107 rfl) ?_
              refine wp_iconst (a := 0) (pc' := 23) rfl rfl rfl ?_
              refine wp_iaload (pc' := 24) rfl rfl (by first | assumption | rfl) (by omega) ?_
              refine wp_aload_n (pc' := 25) rfl rfl rfl (by decide) ?_
              refine wp_getR (r' := 109) (ci := 10) (k0 := 15) (pc' := 28) rfl rfl (by decide) (by first | assumption | rfl) (hT.get 107 rfl) ?_
              refine wp_iconst (a := 1) (pc' := 29) rfl rfl rfl ?_
              refine wp_iaload (pc' := 30) rfl rfl (by first | assumption | rfl) (by omega) ?_
              refine wp_iload_n (pc' := 31) rfl rfl rfl ?_
              refine wp_call (pc' := 34) rfl rfl rfl rfl rfl ⟨Nat.le_of_ble_eq_true rfl, Nat.le_of_ble_eq_true rfl, Nat.le_of_ble_eq_true rfl, Nat.le_of_ble_eq_true rfl, Nat.le_of_ble_eq_true rfl⟩ rfl (c_Mod_canBe hm3.1 (by omega) hx3) ?_
              rintro v1 w9 ⟨hw9, ⟨hv1, hcn⟩ | ⟨hv1, hcn⟩⟩
              · skip
                rw [hv1, hw9]
                clear hv1 hw9 v1 w9
                rw [g113, g123, g93, m0, m1] at hcn
                dsimp only [Option.toList, List.cons_append, List.nil_append, List.append_nil]
                refine wp_if_ne (pc' := 37) (pt := 40) rfl rfl rfl (fun q_115 => ?_) (fun q_115 => absurd (by decide) q_115)
                refine wp_bipush (a := -9) (pc' := 42) rfl rfl rfl ?_
                refine wp_istore_n (pc' := 43) rfl rfl (Nat.le_of_ble_eq_true rfl) rfl ?_
                dsimp only [lset, lset2, List.set, List.getElem?_cons_zero, List.getElem?_cons_succ]
                refine wp_iconst (a := 0) (pc' := 44) rfl rfl rfl ?_
                refine wp_istore (pc' := 46) rfl rfl (Nat.le_of_ble_eq_true rfl) rfl ?_
                dsimp only [lset, lset2, List.set, List.getElem?_cons_zero, List.getElem?_cons_succ]
                refine l_Mbuy hT hm3 hx3 (by omega) (fun w4 y4 x5 hS4 => ?_) (iShl 1 (w3 100 10)).toNat 0 _ _ w3 _ rfl (by omega) rfl (Same.rf _ _)
                have hQ4 : SameF w w4 LQ FQ := hQ3.tr (qry (hS4.F []) (by decide) (by decide))
                have hbe : (bySt (w3 100 10) way (fVote (w3 100 11) (w3 100 12) (w3 107) (fun i => w3 109 (3 + i)) (w3 109 0) (w3 109 1)) (w3 108) (iShl 1 (w3 100 10)).toNat) = (bySt (w 3 2) way (fVote (w 3 0) (w 3 1) (w 4) (w 5) (w 3 3) (w 3 4)) (w 6) (iShl 1 (w 3 2)).toNat) := by
                  rw [g103, g113, g123, g73, g83, g93, m0, m1]
                  exact bySt_congr (fun j a b => ⟨fVote_congr (K := w 107) (H := fun i => w 109 (3 + i)) (hpr.2.2.2.2 j a b).1 (hpr.2.2.2.2 j a b).2.1, (hpr.2.2.2.2 j a b).2.2⟩) _
                rw [hbe]
                obtain ⟨hT, hr4, hl4, hm4, e34, e44, e54, e64, g114, g124, g104, g74, g84, g94, hx4⟩ := vw hI hn0 hQ4
                refine wp_iload_n (pc' := 132) rfl rfl rfl ?_
                refine wp_bipush (a := -9) (pc' := 134) rfl rfl rfl ?_
                refine wp_icmp_ne (pc' := 137) (pt := 142) rfl rfl rfl (fun q_136 => ?_) (fun q_136 => ?_)
                · skip
                  refine wp_aload_n (pc' := 143) rfl rfl rfl (by decide) ?_
                  refine wp_iload_n (pc' := 144) rfl rfl rfl ?_
                  refine wp_aload_n (pc' := 145) rfl rfl rfl (by decide) ?_
                  refine wp_iload_n (pc' := 146) rfl rfl rfl ?_
                  refine wp_call (pc' := 149) rfl rfl rfl rfl rfl ⟨Nat.le_of_ble_eq_true rfl, Nat.le_of_ble_eq_true rfl, Nat.le_of_ble_eq_true rfl, Nat.le_of_ble_eq_true rfl, Nat.le_of_ble_eq_true rfl⟩ rfl (c_Mod_hearthsOf hT hm4.2.1 (fun j a b => (hm4.2.2 j a b).2.2)) ?_
                  intro v1 w9 hq1
                  rw [hq1.1, hq1.2]
                  clear hq1 v1 w9
                  rw [g104, g84, fHs_congr (G' := w 6) (fun j a b => (hpr.2.2.2.2 j a b).2.2)]
                  dsimp only [Option.toList, List.cons_append, List.nil_append, List.append_nil]
                  refine wp_call (pc' := 152) rfl rfl rfl rfl rfl ⟨Nat.le_of_ble_eq_true rfl, Nat.le_of_ble_eq_true rfl, Nat.le_of_ble_eq_true rfl, Nat.le_of_ble_eq_true rfl, Nat.le_of_ble_eq_true rfl⟩ rfl (c_Mod_tells) ?_
                  rintro v1 w6 ⟨hv1, hw6⟩
                  rw [hv1]
                  clear hv1 v1
                  dsimp only [Option.toList, List.cons_append, List.nil_append, List.append_nil]
                  refine wp_ret rfl rfl rfl ?_
                  first
                  | (exfalso; omega)
                  | (refine ⟨?_, ?_, hI.query (w' := w6) ?_ ?_⟩
                     · rfl
                     · rw [hw6, up_ne (by decide), hS4 _ (by decide)]
                     · rw [hw6]
                       exact hQ4.put (Or.inr (by decide))
                     · rw [hw6, up_eq, up_ne (by decide), hS4 0 (by decide), e314])
                · skip
                  refine wp_bipush (a := -9) (pc' := 139) rfl rfl rfl ?_
                  refine wp_goto (pc' := 152) rfl rfl ?_
                  refine wp_ret rfl rfl rfl ?_
                  first
                  | (exfalso; omega)
                  | exact ⟨rfl, hS4 (-2) (by decide), hI.query (w' := w4) hQ4 (by rw [hS4 0 (by decide), hS4 100 (by decide), e314, hw3, hS2 100 (by decide), hS1 100 (by decide)]; exact hITo)⟩
              · skip
                rw [hv1, hw9]
                clear hv1 hw9 v1 w9
                rw [g113, g123, g93, m0, m1] at hcn
                dsimp only [Option.toList, List.cons_append, List.nil_append, List.append_nil]
                refine wp_if_ne (pc' := 37) (pt := 40) rfl rfl rfl (fun q_137 => absurd q_137 (by decide)) (fun q_137 => ?_)
                exfalso; omega
          · skip
            rw [hv1, hw9]
            clear hv1 hw9 v1 w9
            dsimp only [Option.toList, List.cons_append, List.nil_append, List.append_nil]
            refine wp_call (pc' := 10) rfl rfl rfl rfl rfl ⟨Nat.le_of_ble_eq_true rfl, Nat.le_of_ble_eq_true rfl, Nat.le_of_ble_eq_true rfl, Nat.le_of_ble_eq_true rfl, Nat.le_of_ble_eq_true rfl⟩ rfl (c_Mod_need (by decide)) ?_
            rintro v1 w9 ⟨hw9, ⟨hv1, hg1⟩ | ⟨hv1, hg1, hg2⟩ | ⟨hv1, hg1, hg2⟩⟩
            · skip
              rw [hv1, hw9]
              clear hv1 hw9 v1 w9
              dsimp only [Option.toList, List.cons_append, List.nil_append, List.append_nil]
              refine wp_istore_n (pc' := 11) rfl rfl (Nat.le_of_ble_eq_true rfl) rfl ?_
              dsimp only [lset, lset2, List.set, List.getElem?_cons_zero, List.getElem?_cons_succ]
              refine wp_iload_n (pc' := 12) rfl rfl rfl ?_
              refine wp_if_ge (pc' := 15) (pt := 17) rfl rfl rfl (fun q_138 => absurd q_138 (by decide)) (fun q_138 => ?_)
              refine wp_iload_n (pc' := 16) rfl rfl rfl ?_
              refine wp_ret rfl rfl rfl ?_
              first
              | (exfalso; omega)
              | exact ⟨rfl, rfl, hI⟩
            · skip
              rw [hv1, hw9]
              clear hv1 hw9 v1 w9
              dsimp only [Option.toList, List.cons_append, List.nil_append, List.append_nil]
              refine wp_istore_n (pc' := 11) rfl rfl (Nat.le_of_ble_eq_true rfl) rfl ?_
              dsimp only [lset, lset2, List.set, List.getElem?_cons_zero, List.getElem?_cons_succ]
              refine wp_iload_n (pc' := 12) rfl rfl rfl ?_
              refine wp_if_ge (pc' := 15) (pt := 17) rfl rfl rfl (fun q_139 => absurd q_139 (by decide)) (fun q_139 => ?_)
              refine wp_iload_n (pc' := 16) rfl rfl rfl ?_
              refine wp_ret rfl rfl rfl ?_
              first
              | (exfalso; omega)
              | exact ⟨rfl, rfl, hI⟩
            · skip
              rw [hv1, hw9]
              clear hv1 hw9 v1 w9
              dsimp only [Option.toList, List.cons_append, List.nil_append, List.append_nil]
              refine wp_istore_n (pc' := 11) rfl rfl (Nat.le_of_ble_eq_true rfl) rfl ?_
              dsimp only [lset, lset2, List.set, List.getElem?_cons_zero, List.getElem?_cons_succ]
              refine wp_iload_n (pc' := 12) rfl rfl rfl ?_
              refine wp_if_ge (pc' := 15) (pt := 17) rfl rfl rfl (fun q_140 => ?_) (fun q_140 => absurd (by decide) q_140)
              refine wp_aload_n (pc' := 18) rfl rfl rfl (by decide) ?_
              refine wp_aload_n (pc' := 19) rfl rfl rfl (by decide) ?_
              refine wp_getR (r' := 109) (ci := 10) (k0 := 15) (pc' := 22) rfl rfl (by decide) (by first | assumption | rfl) (hT.get 107 rfl) ?_
              refine wp_iconst (a := 0) (pc' := 23) rfl rfl rfl ?_
              refine wp_iaload (pc' := 24) rfl rfl (by first | assumption | rfl) (by omega) ?_
              refine wp_aload_n (pc' := 25) rfl rfl rfl (by decide) ?_
              refine wp_getR (r' := 109) (ci := 10) (k0 := 15) (pc' := 28) rfl rfl (by decide) (by first | assumption | rfl) (hT.get 107 rfl) ?_
              refine wp_iconst (a := 1) (pc' := 29) rfl rfl rfl ?_
              refine wp_iaload (pc' := 30) rfl rfl (by first | assumption | rfl) (by omega) ?_
              refine wp_iload_n (pc' := 31) rfl rfl rfl ?_
              refine wp_call (pc' := 34) rfl rfl rfl rfl rfl ⟨Nat.le_of_ble_eq_true rfl, Nat.le_of_ble_eq_true rfl, Nat.le_of_ble_eq_true rfl, Nat.le_of_ble_eq_true rfl, Nat.le_of_ble_eq_true rfl⟩ rfl (c_Mod_canBe hm3.1 (by omega) hx3) ?_
              rintro v1 w9 ⟨hw9, ⟨hv1, hcn⟩ | ⟨hv1, hcn⟩⟩
              · skip
                rw [hv1, hw9]
                clear hv1 hw9 v1 w9
                rw [g113, g123, g93, m0, m1] at hcn
                dsimp only [Option.toList, List.cons_append, List.nil_append, List.append_nil]
                refine wp_if_ne (pc' := 37) (pt := 40) rfl rfl rfl (fun q_141 => ?_) (fun q_141 => absurd (by decide) q_141)
                refine wp_bipush (a := -9) (pc' := 42) rfl rfl rfl ?_
                refine wp_istore_n (pc' := 43) rfl rfl (Nat.le_of_ble_eq_true rfl) rfl ?_
                dsimp only [lset, lset2, List.set, List.getElem?_cons_zero, List.getElem?_cons_succ]
                refine wp_iconst (a := 0) (pc' := 44) rfl rfl rfl ?_
                refine wp_istore (pc' := 46) rfl rfl (Nat.le_of_ble_eq_true rfl) rfl ?_
                dsimp only [lset, lset2, List.set, List.getElem?_cons_zero, List.getElem?_cons_succ]
                refine l_Mbuy hT hm3 hx3 (by omega) (fun w4 y4 x5 hS4 => ?_) (iShl 1 (w3 100 10)).toNat 0 _ _ w3 _ rfl (by omega) rfl (Same.rf _ _)
                have hQ4 : SameF w w4 LQ FQ := hQ3.tr (qry (hS4.F []) (by decide) (by decide))
                have hbe : (bySt (w3 100 10) way (fVote (w3 100 11) (w3 100 12) (w3 107) (fun i => w3 109 (3 + i)) (w3 109 0) (w3 109 1)) (w3 108) (iShl 1 (w3 100 10)).toNat) = (bySt (w 3 2) way (fVote (w 3 0) (w 3 1) (w 4) (w 5) (w 3 3) (w 3 4)) (w 6) (iShl 1 (w 3 2)).toNat) := by
                  rw [g103, g113, g123, g73, g83, g93, m0, m1]
                  exact bySt_congr (fun j a b => ⟨fVote_congr (K := w 107) (H := fun i => w 109 (3 + i)) (hpr.2.2.2.2 j a b).1 (hpr.2.2.2.2 j a b).2.1, (hpr.2.2.2.2 j a b).2.2⟩) _
                rw [hbe]
                obtain ⟨hT, hr4, hl4, hm4, e34, e44, e54, e64, g114, g124, g104, g74, g84, g94, hx4⟩ := vw hI hn0 hQ4
                refine wp_iload_n (pc' := 132) rfl rfl rfl ?_
                refine wp_bipush (a := -9) (pc' := 134) rfl rfl rfl ?_
                refine wp_icmp_ne (pc' := 137) (pt := 142) rfl rfl rfl (fun q_162 => ?_) (fun q_162 => ?_)
                · skip
                  refine wp_aload_n (pc' := 143) rfl rfl rfl (by decide) ?_
                  refine wp_iload_n (pc' := 144) rfl rfl rfl ?_
                  refine wp_aload_n (pc' := 145) rfl rfl rfl (by decide) ?_
                  refine wp_iload_n (pc' := 146) rfl rfl rfl ?_
                  refine wp_call (pc' := 149) rfl rfl rfl rfl rfl ⟨Nat.le_of_ble_eq_true rfl, Nat.le_of_ble_eq_true rfl, Nat.le_of_ble_eq_true rfl, Nat.le_of_ble_eq_true rfl, Nat.le_of_ble_eq_true rfl⟩ rfl (c_Mod_hearthsOf hT hm4.2.1 (fun j a b => (hm4.2.2 j a b).2.2)) ?_
                  intro v1 w9 hq1
                  rw [hq1.1, hq1.2]
                  clear hq1 v1 w9
                  rw [g104, g84, fHs_congr (G' := w 6) (fun j a b => (hpr.2.2.2.2 j a b).2.2)]
                  dsimp only [Option.toList, List.cons_append, List.nil_append, List.append_nil]
                  refine wp_call (pc' := 152) rfl rfl rfl rfl rfl ⟨Nat.le_of_ble_eq_true rfl, Nat.le_of_ble_eq_true rfl, Nat.le_of_ble_eq_true rfl, Nat.le_of_ble_eq_true rfl, Nat.le_of_ble_eq_true rfl⟩ rfl (c_Mod_tells) ?_
                  rintro v1 w6 ⟨hv1, hw6⟩
                  rw [hv1]
                  clear hv1 v1
                  dsimp only [Option.toList, List.cons_append, List.nil_append, List.append_nil]
                  refine wp_ret rfl rfl rfl ?_
                  first
                  | (exfalso; omega)
                  | (refine ⟨?_, ?_, hI.query (w' := w6) ?_ ?_⟩
                     · rfl
                     · rw [hw6, up_ne (by decide), hS4 _ (by decide)]
                     · rw [hw6]
                       exact hQ4.put (Or.inr (by decide))
                     · rw [hw6, up_eq, up_ne (by decide), hS4 0 (by decide), e314])
                · skip
                  refine wp_bipush (a := -9) (pc' := 139) rfl rfl rfl ?_
                  refine wp_goto (pc' := 152) rfl rfl ?_
                  refine wp_ret rfl rfl rfl ?_
                  first
                  | (exfalso; omega)
                  | exact ⟨rfl, hS4 (-2) (by decide), hI.query (w' := w4) hQ4 (by rw [hS4 0 (by decide), hS4 100 (by decide), e314, hw3, hS2 100 (by decide), hS1 100 (by decide)]; exact hITo)⟩
              · skip
                rw [hv1, hw9]
                clear hv1 hw9 v1 w9
                rw [g113, g123, g93, m0, m1] at hcn
                dsimp only [Option.toList, List.cons_append, List.nil_append, List.append_nil]
                refine wp_if_ne (pc' := 37) (pt := 40) rfl rfl rfl (fun q_163 => absurd q_163 (by decide)) (fun q_163 => ?_)
                exfalso; omega
        · skip
          refine wp_bipush (a := -9) (pc' := 96) rfl rfl rfl ?_
          refine wp_ret rfl rfl rfl ?_
          refine ⟨_, rfl, ?_, ?_⟩
          · exact hQ2.cell (-2) (by decide) (by decide)
          obtain ⟨w3, hw3⟩ : ∃ w3, w3 = w2 := ⟨_, rfl⟩
          rw [← hw3]
          have hQ3 : SameF w w3 LQ FQ := by rw [hw3]; exact hQ2
          have e314 : w3 0 14 = w 0 14 := by rw [hw3, hS2 0 (by decide), hS1 0 (by decide)]
          obtain ⟨hT, hr3, hl3, hm3, e33, e43, e53, e63, g113, g123, g103, g73, g83, g93, hx3⟩ := vw hI hn0 hQ3
          refine wp_aload_n (pc' := 1) rfl rfl rfl (by decide) ?_
          refine wp_iload_n (pc' := 2) rfl rfl rfl ?_
          refine wp_iconst (a := 0) (pc' := 3) rfl rfl rfl ?_
          refine wp_iconst (a := 4) (pc' := 4) rfl rfl rfl ?_
          refine wp_call (pc' := 7) rfl rfl rfl rfl rfl ⟨Nat.le_of_ble_eq_true rfl, Nat.le_of_ble_eq_true rfl, Nat.le_of_ble_eq_true rfl, Nat.le_of_ble_eq_true rfl, Nat.le_of_ble_eq_true rfl⟩ rfl (c_Mod_in) ?_
          rintro v1 w9 ⟨hw9, ⟨hv1, hin⟩ | ⟨hv1, hin⟩⟩
          · skip
            rw [hv1, hw9]
            clear hv1 hw9 v1 w9
            dsimp only [Option.toList, List.cons_append, List.nil_append, List.append_nil]
            refine wp_call (pc' := 10) rfl rfl rfl rfl rfl ⟨Nat.le_of_ble_eq_true rfl, Nat.le_of_ble_eq_true rfl, Nat.le_of_ble_eq_true rfl, Nat.le_of_ble_eq_true rfl, Nat.le_of_ble_eq_true rfl⟩ rfl (c_Mod_need (by decide)) ?_
            rintro v1 w9 ⟨hw9, ⟨hv1, hg1⟩ | ⟨hv1, hg1, hg2⟩ | ⟨hv1, hg1, hg2⟩⟩
            · skip
              rw [hv1, hw9]
              clear hv1 hw9 v1 w9
              dsimp only [Option.toList, List.cons_append, List.nil_append, List.append_nil]
              refine wp_istore_n (pc' := 11) rfl rfl (Nat.le_of_ble_eq_true rfl) rfl ?_
              dsimp only [lset, lset2, List.set, List.getElem?_cons_zero, List.getElem?_cons_succ]
              refine wp_iload_n (pc' := 12) rfl rfl rfl ?_
              refine wp_if_ge (pc' := 15) (pt := 17) rfl rfl rfl (fun q_214 => absurd q_214 (by decide)) (fun q_214 => ?_)
              refine wp_iload_n (pc' := 16) rfl rfl rfl ?_
              refine wp_ret rfl rfl rfl ?_
              first
              | (exfalso; omega)
              | exact ⟨rfl, rfl, hI⟩
            · skip
              rw [hv1, hw9]
              clear hv1 hw9 v1 w9
              dsimp only [Option.toList, List.cons_append, List.nil_append, List.append_nil]
              refine wp_istore_n (pc' := 11) rfl rfl (Nat.le_of_ble_eq_true rfl) rfl ?_
              dsimp only [lset, lset2, List.set, List.getElem?_cons_zero, List.getElem?_cons_succ]
              refine wp_iload_n (pc' := 12) rfl rfl rfl ?_
              refine wp_if_ge (pc' := 15) (pt := 17) rfl rfl rfl (fun q_215 => absurd q_215 (by decide)) (fun q_215 => ?_)
              refine wp_iload_n (pc' := 16) rfl rfl rfl ?_
              refine wp_ret rfl rfl rfl ?_
              first
              | (exfalso; omega)
              | exact ⟨rfl, rfl, hI⟩
            · skip
              rw [hv1, hw9]
              clear hv1 hw9 v1 w9
              dsimp only [Option.toList, List.cons_append, List.nil_append, List.append_nil]
              refine wp_istore_n (pc' := 11) rfl rfl (Nat.le_of_ble_eq_true rfl) rfl ?_
              dsimp only [lset, lset2, List.set, List.getElem?_cons_zero, List.getElem?_cons_succ]
              refine wp_iload_n (pc' := 12) rfl rfl rfl ?_
              refine wp_if_ge (pc' := 15) (pt := 17) rfl rfl rfl (fun q_216 => ?_) (fun q_216 => absurd (by decide) q_216)
              refine wp_aload_n (pc' := 18) rfl rfl rfl (by decide) ?_
              refine wp_aload_n (pc' := 19) rfl rfl rfl (by decide) ?_
              refine wp_getR (r' := 109) (ci := 10) (k0 := 15) (pc' := 22) rfl rfl (by decide) (by first | assumption | rfl) (hT.get 107 rfl) ?_
              refine wp_iconst (a := 0) (pc' := 23) rfl rfl rfl ?_
              refine wp_iaload (pc' := 24) rfl rfl (by first | assumption | rfl) (by omega) ?_
              refine wp_aload_n (pc' := 25) rfl rfl rfl (by decide) ?_
              refine wp_getR (r' := 109) (ci := 10) (k0 := 15) (pc' := 28) rfl rfl (by decide) (by first | assumption | rfl) (hT.get 107 rfl) ?_
              refine wp_iconst (a := 1) (pc' := 29) rfl rfl rfl ?_
              refine wp_iaload (pc' := 30) rfl rfl (by first | assumption | rfl) (by omega) ?_
              refine wp_iload_n (pc' := 31) rfl rfl rfl ?_
              refine wp_call (pc' := 34) rfl rfl rfl rfl rfl ⟨Nat.le_of_ble_eq_true rfl, Nat.le_of_ble_eq_true rfl, Nat.le_of_ble_eq_true rfl, Nat.le_of_ble_eq_true rfl, Nat.le_of_ble_eq_true rfl⟩ rfl (c_Mod_canBe hm3.1 (by omega) hx3) ?_
              rintro v1 w9 ⟨hw9, ⟨hv1, hcn⟩ | ⟨hv1, hcn⟩⟩
              · skip
                rw [hv1, hw9]
                clear hv1 hw9 v1 w9
                rw [g113, g123, g93, m0, m1] at hcn
                dsimp only [Option.toList, List.cons_append, List.nil_append, List.append_nil]
                refine wp_if_ne (pc' := 37) (pt := 40) rfl rfl rfl (fun q_217 => ?_) (fun q_217 => absurd (by decide) q_217)
                refine wp_bipush (a := -9) (pc' := 42) rfl rfl rfl ?_
                refine wp_istore_n (pc' := 43) rfl rfl (Nat.le_of_ble_eq_true rfl) rfl ?_
                dsimp only [lset, lset2, List.set, List.getElem?_cons_zero, List.getElem?_cons_succ]
                refine wp_iconst (a := 0) (pc' := 44) rfl rfl rfl ?_
                refine wp_istore (pc' := 46) rfl rfl (Nat.le_of_ble_eq_true rfl) rfl ?_
                dsimp only [lset, lset2, List.set, List.getElem?_cons_zero, List.getElem?_cons_succ]
                refine l_Mbuy hT hm3 hx3 (by omega) (fun w4 y4 x5 hS4 => ?_) (iShl 1 (w3 100 10)).toNat 0 _ _ w3 _ rfl (by omega) rfl (Same.rf _ _)
                have hQ4 : SameF w w4 LQ FQ := hQ3.tr (qry (hS4.F []) (by decide) (by decide))
                have hbe : (bySt (w3 100 10) way (fVote (w3 100 11) (w3 100 12) (w3 107) (fun i => w3 109 (3 + i)) (w3 109 0) (w3 109 1)) (w3 108) (iShl 1 (w3 100 10)).toNat) = (bySt (w 3 2) way (fVote (w 3 0) (w 3 1) (w 4) (w 5) (w 3 3) (w 3 4)) (w 6) (iShl 1 (w 3 2)).toNat) := by
                  rw [g103, g113, g123, g73, g83, g93, m0, m1]
                  exact bySt_congr (fun j a b => ⟨fVote_congr (K := w 107) (H := fun i => w 109 (3 + i)) (hpr.2.2.2.2 j a b).1 (hpr.2.2.2.2 j a b).2.1, (hpr.2.2.2.2 j a b).2.2⟩) _
                rw [hbe]
                obtain ⟨hT, hr4, hl4, hm4, e34, e44, e54, e64, g114, g124, g104, g74, g84, g94, hx4⟩ := vw hI hn0 hQ4
                refine wp_iload_n (pc' := 132) rfl rfl rfl ?_
                refine wp_bipush (a := -9) (pc' := 134) rfl rfl rfl ?_
                refine wp_icmp_ne (pc' := 137) (pt := 142) rfl rfl rfl (fun q_238 => ?_) (fun q_238 => ?_)
                · skip
                  refine wp_aload_n (pc' := 143) rfl rfl rfl (by decide) ?_
                  refine wp_iload_n (pc' := 144) rfl rfl rfl ?_
                  refine wp_aload_n (pc' := 145) rfl rfl rfl (by decide) ?_
                  refine wp_iload_n (pc' := 146) rfl rfl rfl ?_
                  refine wp_call (pc' := 149) rfl rfl rfl rfl rfl ⟨Nat.le_of_ble_eq_true rfl, Nat.le_of_ble_eq_true rfl, Nat.le_of_ble_eq_true rfl, Nat.le_of_ble_eq_true rfl, Nat.le_of_ble_eq_true rfl⟩ rfl (c_Mod_hearthsOf hT hm4.2.1 (fun j a b => (hm4.2.2 j a b).2.2)) ?_
                  intro v1 w9 hq1
                  rw [hq1.1, hq1.2]
                  clear hq1 v1 w9
                  rw [g104, g84, fHs_congr (G' := w 6) (fun j a b => (hpr.2.2.2.2 j a b).2.2)]
                  dsimp only [Option.toList, List.cons_append, List.nil_append, List.append_nil]
                  refine wp_call (pc' := 152) rfl rfl rfl rfl rfl ⟨Nat.le_of_ble_eq_true rfl, Nat.le_of_ble_eq_true rfl, Nat.le_of_ble_eq_true rfl, Nat.le_of_ble_eq_true rfl, Nat.le_of_ble_eq_true rfl⟩ rfl (c_Mod_tells) ?_
                  rintro v1 w6 ⟨hv1, hw6⟩
                  rw [hv1]
                  clear hv1 v1
                  dsimp only [Option.toList, List.cons_append, List.nil_append, List.append_nil]
                  refine wp_ret rfl rfl rfl ?_
                  first
                  | (exfalso; omega)
                  | (refine ⟨?_, ?_, hI.query (w' := w6) ?_ ?_⟩
                     · rfl
                     · rw [hw6, up_ne (by decide), hS4 _ (by decide)]
                     · rw [hw6]
                       exact hQ4.put (Or.inr (by decide))
                     · rw [hw6, up_eq, up_ne (by decide), hS4 0 (by decide), e314])
                · skip
                  refine wp_bipush (a := -9) (pc' := 139) rfl rfl rfl ?_
                  refine wp_goto (pc' := 152) rfl rfl ?_
                  refine wp_ret rfl rfl rfl ?_
                  first
                  | (exfalso; omega)
                  | exact ⟨rfl, hS4 (-2) (by decide), hI.query (w' := w4) hQ4 (by rw [hS4 0 (by decide), hS4 100 (by decide), e314, hw3, hS2 100 (by decide), hS1 100 (by decide)]; exact hITo)⟩
              · skip
                rw [hv1, hw9]
                clear hv1 hw9 v1 w9
                rw [g113, g123, g93, m0, m1] at hcn
                dsimp only [Option.toList, List.cons_append, List.nil_append, List.append_nil]
                refine wp_if_ne (pc' := 37) (pt := 40) rfl rfl rfl (fun q_239 => absurd q_239 (by decide)) (fun q_239 => ?_)
                exfalso; omega
          · skip
            rw [hv1, hw9]
            clear hv1 hw9 v1 w9
            dsimp only [Option.toList, List.cons_append, List.nil_append, List.append_nil]
            refine wp_call (pc' := 10) rfl rfl rfl rfl rfl ⟨Nat.le_of_ble_eq_true rfl, Nat.le_of_ble_eq_true rfl, Nat.le_of_ble_eq_true rfl, Nat.le_of_ble_eq_true rfl, Nat.le_of_ble_eq_true rfl⟩ rfl (c_Mod_need (by decide)) ?_
            rintro v1 w9 ⟨hw9, ⟨hv1, hg1⟩ | ⟨hv1, hg1, hg2⟩ | ⟨hv1, hg1, hg2⟩⟩
            · skip
              rw [hv1, hw9]
              clear hv1 hw9 v1 w9
              dsimp only [Option.toList, List.cons_append, List.nil_append, List.append_nil]
              refine wp_istore_n (pc' := 11) rfl rfl (Nat.le_of_ble_eq_true rfl) rfl ?_
              dsimp only [lset, lset2, List.set, List.getElem?_cons_zero, List.getElem?_cons_succ]
              refine wp_iload_n (pc' := 12) rfl rfl rfl ?_
              refine wp_if_ge (pc' := 15) (pt := 17) rfl rfl rfl (fun q_240 => absurd q_240 (by decide)) (fun q_240 => ?_)
              refine wp_iload_n (pc' := 16) rfl rfl rfl ?_
              refine wp_ret rfl rfl rfl ?_
              first
              | (exfalso; omega)
              | exact ⟨rfl, rfl, hI⟩
            · skip
              rw [hv1, hw9]
              clear hv1 hw9 v1 w9
              dsimp only [Option.toList, List.cons_append, List.nil_append, List.append_nil]
              refine wp_istore_n (pc' := 11) rfl rfl (Nat.le_of_ble_eq_true rfl) rfl ?_
              dsimp only [lset, lset2, List.set, List.getElem?_cons_zero, List.getElem?_cons_succ]
              refine wp_iload_n (pc' := 12) rfl rfl rfl ?_
              refine wp_if_ge (pc' := 15) (pt := 17) rfl rfl rfl (fun q_241 => absurd q_241 (by decide)) (fun q_241 => ?_)
              refine wp_iload_n (pc' := 16) rfl rfl rfl ?_
              refine wp_ret rfl rfl rfl ?_
              first
              | (exfalso; omega)
              | exact ⟨rfl, rfl, hI⟩
            · skip
              rw [hv1, hw9]
              clear hv1 hw9 v1 w9
              dsimp only [Option.toList, List.cons_append, List.nil_append, List.append_nil]
              refine wp_istore_n (pc' := 11) rfl rfl (Nat.le_of_ble_eq_true rfl) rfl ?_
              dsimp only [lset, lset2, List.set, List.getElem?_cons_zero, List.getElem?_cons_succ]
              refine wp_iload_n (pc' := 12) rfl rfl rfl ?_
              refine wp_if_ge (pc' := 15) (pt := 17) rfl rfl rfl (fun q_242 => ?_) (fun q_242 => absurd (by decide) q_242)
              refine wp_aload_n (pc' := 18) rfl rfl rfl (by decide) ?_
              refine wp_aload_n (pc' := 19) rfl rfl rfl (by decide) ?_
              refine wp_getR (r' := 109) (ci := 10) (k0 := 15) (pc' := 22) rfl rfl (by decide) (by first | assumption | rfl) (hT.get 107 rfl) ?_
              refine wp_iconst (a := 0) (pc' := 23) rfl rfl rfl ?_
              refine wp_iaload (pc' := 24) rfl rfl (by first | assumption | rfl) (by omega) ?_
              refine wp_aload_n (pc' := 25) rfl rfl rfl (by decide) ?_
              refine wp_getR (r' := 109) (ci := 10) (k0 := 15) (pc' := 28) rfl rfl (by decide) (by first | assumption | rfl) (hT.get 107 rfl) ?_
              refine wp_iconst (a := 1) (pc' := 29) rfl rfl rfl ?_
              refine wp_iaload (pc' := 30) rfl rfl (by first | assumption | rfl) (by omega) ?_
              refine wp_iload_n (pc' := 31) rfl rfl rfl ?_
              refine wp_call (pc' := 34) rfl rfl rfl rfl rfl ⟨Nat.le_of_ble_eq_true rfl, Nat.le_of_ble_eq_true rfl, Nat.le_of_ble_eq_true rfl, Nat.le_of_ble_eq_true rfl, Nat.le_of_ble_eq_true rfl⟩ rfl (c_Mod_canBe hm3.1 (by omega) hx3) ?_
              rintro v1 w9 ⟨hw9, ⟨hv1, hcn⟩ | ⟨hv1, hcn⟩⟩
              · skip
                rw [hv1, hw9]
                clear hv1 hw9 v1 w9
                rw [g113, g123, g93, m0, m1] at hcn
                dsimp only [Option.toList, List.cons_append, List.nil_append, List.append_nil]
                refine wp_if_ne (pc' := 37) (pt := 40) rfl rfl rfl (fun q_243 => ?_) (fun q_243 => absurd (by decide) q_243)
                refine wp_bipush (a := -9) (pc' := 42) rfl rfl rfl ?_
                refine wp_istore_n (pc' := 43) rfl rfl (Nat.le_of_ble_eq_true rfl) rfl ?_
                dsimp only [lset, lset2, List.set, List.getElem?_cons_zero, List.getElem?_cons_succ]
                refine wp_iconst (a := 0) (pc' := 44) rfl rfl rfl ?_
                refine wp_istore (pc' := 46) rfl rfl (Nat.le_of_ble_eq_true rfl) rfl ?_
                dsimp only [lset, lset2, List.set, List.getElem?_cons_zero, List.getElem?_cons_succ]
                refine l_Mbuy hT hm3 hx3 (by omega) (fun w4 y4 x5 hS4 => ?_) (iShl 1 (w3 100 10)).toNat 0 _ _ w3 _ rfl (by omega) rfl (Same.rf _ _)
                have hQ4 : SameF w w4 LQ FQ := hQ3.tr (qry (hS4.F []) (by decide) (by decide))
                have hbe : (bySt (w3 100 10) way (fVote (w3 100 11) (w3 100 12) (w3 107) (fun i => w3 109 (3 + i)) (w3 109 0) (w3 109 1)) (w3 108) (iShl 1 (w3 100 10)).toNat) = (bySt (w 3 2) way (fVote (w 3 0) (w 3 1) (w 4) (w 5) (w 3 3) (w 3 4)) (w 6) (iShl 1 (w 3 2)).toNat) := by
                  rw [g103, g113, g123, g73, g83, g93, m0, m1]
                  exact bySt_congr (fun j a b => ⟨fVote_congr (K := w 107) (H := fun i => w 109 (3 + i)) (hpr.2.2.2.2 j a b).1 (hpr.2.2.2.2 j a b).2.1, (hpr.2.2.2.2 j a b).2.2⟩) _
                rw [hbe]
                obtain ⟨hT, hr4, hl4, hm4, e34, e44, e54, e64, g114, g124, g104, g74, g84, g94, hx4⟩ := vw hI hn0 hQ4
                refine wp_iload_n (pc' := 132) rfl rfl rfl ?_
                refine wp_bipush (a := -9) (pc' := 134) rfl rfl rfl ?_
                refine wp_icmp_ne (pc' := 137) (pt := 142) rfl rfl rfl (fun q_264 => ?_) (fun q_264 => ?_)
                · skip
                  refine wp_aload_n (pc' := 143) rfl rfl rfl (by decide) ?_
                  refine wp_iload_n (pc' := 144) rfl rfl rfl ?_
                  refine wp_aload_n (pc' := 145) rfl rfl rfl (by decide) ?_
                  refine wp_iload_n (pc' := 146) rfl rfl rfl ?_
                  refine wp_call (pc' := 149) rfl rfl rfl rfl rfl ⟨Nat.le_of_ble_eq_true rfl, Nat.le_of_ble_eq_true rfl, Nat.le_of_ble_eq_true rfl, Nat.le_of_ble_eq_true rfl, Nat.le_of_ble_eq_true rfl⟩ rfl (c_Mod_hearthsOf hT hm4.2.1 (fun j a b => (hm4.2.2 j a b).2.2)) ?_
                  intro v1 w9 hq1
                  rw [hq1.1, hq1.2]
                  clear hq1 v1 w9
                  rw [g104, g84, fHs_congr (G' := w 6) (fun j a b => (hpr.2.2.2.2 j a b).2.2)]
                  dsimp only [Option.toList, List.cons_append, List.nil_append, List.append_nil]
                  refine wp_call (pc' := 152) rfl rfl rfl rfl rfl ⟨Nat.le_of_ble_eq_true rfl, Nat.le_of_ble_eq_true rfl, Nat.le_of_ble_eq_true rfl, Nat.le_of_ble_eq_true rfl, Nat.le_of_ble_eq_true rfl⟩ rfl (c_Mod_tells) ?_
                  rintro v1 w6 ⟨hv1, hw6⟩
                  rw [hv1]
                  clear hv1 v1
                  dsimp only [Option.toList, List.cons_append, List.nil_append, List.append_nil]
                  refine wp_ret rfl rfl rfl ?_
                  first
                  | (exfalso; omega)
                  | (refine ⟨?_, ?_, hI.query (w' := w6) ?_ ?_⟩
                     · rfl
                     · rw [hw6, up_ne (by decide), hS4 _ (by decide)]
                     · rw [hw6]
                       exact hQ4.put (Or.inr (by decide))
                     · rw [hw6, up_eq, up_ne (by decide), hS4 0 (by decide), e314])
                · skip
                  refine wp_bipush (a := -9) (pc' := 139) rfl rfl rfl ?_
                  refine wp_goto (pc' := 152) rfl rfl ?_
                  refine wp_ret rfl rfl rfl ?_
                  first
                  | (exfalso; omega)
                  | exact ⟨rfl, hS4 (-2) (by decide), hI.query (w' := w4) hQ4 (by rw [hS4 0 (by decide), hS4 100 (by decide), e314, hw3, hS2 100 (by decide), hS1 100 (by decide)]; exact hITo)⟩
              · skip
                rw [hv1, hw9]
                clear hv1 hw9 v1 w9
                rw [g113, g123, g93, m0, m1] at hcn
                dsimp only [Option.toList, List.cons_append, List.nil_append, List.append_nil]
                refine wp_if_ne (pc' := 37) (pt := 40) rfl rfl rfl (fun q_265 => absurd q_265 (by decide)) (fun q_265 => ?_)
                exfalso; omega
      · skip
        rw [hv1, hw9]
        clear hv1 hw9 v1 w9
        dsimp only [Option.toList, List.cons_append, List.nil_append, List.append_nil]
        refine wp_if_ne (pc' := 47) (pt := 50) rfl rfl rfl (fun q_266 => absurd q_266 (by decide)) (fun q_266 => ?_)
        refine wp_bipush (a := -9) (pc' := 49) rfl rfl rfl ?_
        refine wp_ret rfl rfl rfl ?_
        refine ⟨_, rfl, ?_, ?_⟩
        · rfl
        refine wp_aload_n (pc' := 1) rfl rfl rfl (by decide) ?_
        refine wp_iload_n (pc' := 2) rfl rfl rfl ?_
        refine wp_iconst (a := 0) (pc' := 3) rfl rfl rfl ?_
        refine wp_iconst (a := 4) (pc' := 4) rfl rfl rfl ?_
        refine wp_call (pc' := 7) rfl rfl rfl rfl rfl ⟨Nat.le_of_ble_eq_true rfl, Nat.le_of_ble_eq_true rfl, Nat.le_of_ble_eq_true rfl, Nat.le_of_ble_eq_true rfl, Nat.le_of_ble_eq_true rfl⟩ rfl (c_Mod_in) ?_
        rintro v1 w9 ⟨hw9, ⟨hv1, hin⟩ | ⟨hv1, hin⟩⟩
        · skip
          rw [hv1, hw9]
          clear hv1 hw9 v1 w9
          dsimp only [Option.toList, List.cons_append, List.nil_append, List.append_nil]
          refine wp_call (pc' := 10) rfl rfl rfl rfl rfl ⟨Nat.le_of_ble_eq_true rfl, Nat.le_of_ble_eq_true rfl, Nat.le_of_ble_eq_true rfl, Nat.le_of_ble_eq_true rfl, Nat.le_of_ble_eq_true rfl⟩ rfl (c_Mod_need (by decide)) ?_
          rintro v1 w9 ⟨hw9, ⟨hv1, hg1⟩ | ⟨hv1, hg1, hg2⟩ | ⟨hv1, hg1, hg2⟩⟩
          · skip
            rw [hv1, hw9]
            clear hv1 hw9 v1 w9
            dsimp only [Option.toList, List.cons_append, List.nil_append, List.append_nil]
            refine wp_istore_n (pc' := 11) rfl rfl (Nat.le_of_ble_eq_true rfl) rfl ?_
            dsimp only [lset, lset2, List.set, List.getElem?_cons_zero, List.getElem?_cons_succ]
            refine wp_iload_n (pc' := 12) rfl rfl rfl ?_
            refine wp_if_ge (pc' := 15) (pt := 17) rfl rfl rfl (fun q_317 => absurd q_317 (by decide)) (fun q_317 => ?_)
            refine wp_iload_n (pc' := 16) rfl rfl rfl ?_
            refine wp_ret rfl rfl rfl ?_
            first
            | (exfalso; omega)
            | exact ⟨rfl, rfl, hI⟩
          · skip
            rw [hv1, hw9]
            clear hv1 hw9 v1 w9
            dsimp only [Option.toList, List.cons_append, List.nil_append, List.append_nil]
            refine wp_istore_n (pc' := 11) rfl rfl (Nat.le_of_ble_eq_true rfl) rfl ?_
            dsimp only [lset, lset2, List.set, List.getElem?_cons_zero, List.getElem?_cons_succ]
            refine wp_iload_n (pc' := 12) rfl rfl rfl ?_
            refine wp_if_ge (pc' := 15) (pt := 17) rfl rfl rfl (fun q_318 => absurd q_318 (by decide)) (fun q_318 => ?_)
            refine wp_iload_n (pc' := 16) rfl rfl rfl ?_
            refine wp_ret rfl rfl rfl ?_
            first
            | (exfalso; omega)
            | exact ⟨rfl, rfl, hI⟩
          · skip
            rw [hv1, hw9]
            clear hv1 hw9 v1 w9
            dsimp only [Option.toList, List.cons_append, List.nil_append, List.append_nil]
            refine wp_istore_n (pc' := 11) rfl rfl (Nat.le_of_ble_eq_true rfl) rfl ?_
            dsimp only [lset, lset2, List.set, List.getElem?_cons_zero, List.getElem?_cons_succ]
            refine wp_iload_n (pc' := 12) rfl rfl rfl ?_
            refine wp_if_ge (pc' := 15) (pt := 17) rfl rfl rfl (fun q_319 => ?_) (fun q_319 => absurd (by decide) q_319)
            refine wp_aload_n (pc' := 18) rfl rfl rfl (by decide) ?_
            refine wp_aload_n (pc' := 19) rfl rfl rfl (by decide) ?_
            refine wp_getR (r' := 109) (ci := 10) (k0 := 15) (pc' := 22) rfl rfl (by decide) (by first | assumption | rfl) (hT.get 107 rfl) ?_
            refine wp_iconst (a := 0) (pc' := 23) rfl rfl rfl ?_
            refine wp_iaload (pc' := 24) rfl rfl (by first | assumption | rfl) (by omega) ?_
            refine wp_aload_n (pc' := 25) rfl rfl rfl (by decide) ?_
            refine wp_getR (r' := 109) (ci := 10) (k0 := 15) (pc' := 28) rfl rfl (by decide) (by first | assumption | rfl) (hT.get 107 rfl) ?_
            refine wp_iconst (a := 1) (pc' := 29) rfl rfl rfl ?_
            refine wp_iaload (pc' := 30) rfl rfl (by first | assumption | rfl) (by omega) ?_
            refine wp_iload_n (pc' := 31) rfl rfl rfl ?_
            refine wp_call (pc' := 34) rfl rfl rfl rfl rfl ⟨Nat.le_of_ble_eq_true rfl, Nat.le_of_ble_eq_true rfl, Nat.le_of_ble_eq_true rfl, Nat.le_of_ble_eq_true rfl, Nat.le_of_ble_eq_true rfl⟩ rfl (c_Mod_canBe hpr.2.1.1 (by omega) (by rw [b11, b12, m0]; exact hpr.2.2.1)) ?_
            rintro v1 w9 ⟨hw9, ⟨hv1, hcn⟩ | ⟨hv1, hcn⟩⟩
            · skip
              rw [hv1, hw9]
              clear hv1 hw9 v1 w9
              rw [b11, b12, m0, m1] at hcn
              dsimp only [Option.toList, List.cons_append, List.nil_append, List.append_nil]
              refine wp_if_ne (pc' := 37) (pt := 40) rfl rfl rfl (fun q_320 => ?_) (fun q_320 => absurd (by decide) q_320)
              exfalso; omega
            · skip
              rw [hv1, hw9]
              clear hv1 hw9 v1 w9
              rw [b11, b12, m0, m1] at hcn
              dsimp only [Option.toList, List.cons_append, List.nil_append, List.append_nil]
              refine wp_if_ne (pc' := 37) (pt := 40) rfl rfl rfl (fun q_321 => absurd q_321 (by decide)) (fun q_321 => ?_)
              refine wp_bipush (a := -9) (pc' := 39) rfl rfl rfl ?_
              refine wp_ret rfl rfl rfl ?_
              first
              | (exfalso; omega)
              | exact ⟨rfl, rfl, hI⟩
        · skip
          rw [hv1, hw9]
          clear hv1 hw9 v1 w9
          dsimp only [Option.toList, List.cons_append, List.nil_append, List.append_nil]
          refine wp_call (pc' := 10) rfl rfl rfl rfl rfl ⟨Nat.le_of_ble_eq_true rfl, Nat.le_of_ble_eq_true rfl, Nat.le_of_ble_eq_true rfl, Nat.le_of_ble_eq_true rfl, Nat.le_of_ble_eq_true rfl⟩ rfl (c_Mod_need (by decide)) ?_
          rintro v1 w9 ⟨hw9, ⟨hv1, hg1⟩ | ⟨hv1, hg1, hg2⟩ | ⟨hv1, hg1, hg2⟩⟩
          · skip
            rw [hv1, hw9]
            clear hv1 hw9 v1 w9
            dsimp only [Option.toList, List.cons_append, List.nil_append, List.append_nil]
            refine wp_istore_n (pc' := 11) rfl rfl (Nat.le_of_ble_eq_true rfl) rfl ?_
            dsimp only [lset, lset2, List.set, List.getElem?_cons_zero, List.getElem?_cons_succ]
            refine wp_iload_n (pc' := 12) rfl rfl rfl ?_
            refine wp_if_ge (pc' := 15) (pt := 17) rfl rfl rfl (fun q_322 => absurd q_322 (by decide)) (fun q_322 => ?_)
            refine wp_iload_n (pc' := 16) rfl rfl rfl ?_
            refine wp_ret rfl rfl rfl ?_
            first
            | (exfalso; omega)
            | exact ⟨rfl, rfl, hI⟩
          · skip
            rw [hv1, hw9]
            clear hv1 hw9 v1 w9
            dsimp only [Option.toList, List.cons_append, List.nil_append, List.append_nil]
            refine wp_istore_n (pc' := 11) rfl rfl (Nat.le_of_ble_eq_true rfl) rfl ?_
            dsimp only [lset, lset2, List.set, List.getElem?_cons_zero, List.getElem?_cons_succ]
            refine wp_iload_n (pc' := 12) rfl rfl rfl ?_
            refine wp_if_ge (pc' := 15) (pt := 17) rfl rfl rfl (fun q_323 => absurd q_323 (by decide)) (fun q_323 => ?_)
            refine wp_iload_n (pc' := 16) rfl rfl rfl ?_
            refine wp_ret rfl rfl rfl ?_
            first
            | (exfalso; omega)
            | exact ⟨rfl, rfl, hI⟩
          · skip
            rw [hv1, hw9]
            clear hv1 hw9 v1 w9
            dsimp only [Option.toList, List.cons_append, List.nil_append, List.append_nil]
            refine wp_istore_n (pc' := 11) rfl rfl (Nat.le_of_ble_eq_true rfl) rfl ?_
            dsimp only [lset, lset2, List.set, List.getElem?_cons_zero, List.getElem?_cons_succ]
            refine wp_iload_n (pc' := 12) rfl rfl rfl ?_
            refine wp_if_ge (pc' := 15) (pt := 17) rfl rfl rfl (fun q_324 => ?_) (fun q_324 => absurd (by decide) q_324)
            refine wp_aload_n (pc' := 18) rfl rfl rfl (by decide) ?_
            refine wp_aload_n (pc' := 19) rfl rfl rfl (by decide) ?_
            refine wp_getR (r' := 109) (ci := 10) (k0 := 15) (pc' := 22) rfl rfl (by decide) (by first | assumption | rfl) (hT.get 107 rfl) ?_
            refine wp_iconst (a := 0) (pc' := 23) rfl rfl rfl ?_
            refine wp_iaload (pc' := 24) rfl rfl (by first | assumption | rfl) (by omega) ?_
            refine wp_aload_n (pc' := 25) rfl rfl rfl (by decide) ?_
            refine wp_getR (r' := 109) (ci := 10) (k0 := 15) (pc' := 28) rfl rfl (by decide) (by first | assumption | rfl) (hT.get 107 rfl) ?_
            refine wp_iconst (a := 1) (pc' := 29) rfl rfl rfl ?_
            refine wp_iaload (pc' := 30) rfl rfl (by first | assumption | rfl) (by omega) ?_
            refine wp_iload_n (pc' := 31) rfl rfl rfl ?_
            refine wp_call (pc' := 34) rfl rfl rfl rfl rfl ⟨Nat.le_of_ble_eq_true rfl, Nat.le_of_ble_eq_true rfl, Nat.le_of_ble_eq_true rfl, Nat.le_of_ble_eq_true rfl, Nat.le_of_ble_eq_true rfl⟩ rfl (c_Mod_canBe hpr.2.1.1 (by omega) (by rw [b11, b12, m0]; exact hpr.2.2.1)) ?_
            rintro v1 w9 ⟨hw9, ⟨hv1, hcn⟩ | ⟨hv1, hcn⟩⟩
            · skip
              rw [hv1, hw9]
              clear hv1 hw9 v1 w9
              rw [b11, b12, m0, m1] at hcn
              dsimp only [Option.toList, List.cons_append, List.nil_append, List.append_nil]
              refine wp_if_ne (pc' := 37) (pt := 40) rfl rfl rfl (fun q_325 => ?_) (fun q_325 => absurd (by decide) q_325)
              exfalso; omega
            · skip
              rw [hv1, hw9]
              clear hv1 hw9 v1 w9
              rw [b11, b12, m0, m1] at hcn
              dsimp only [Option.toList, List.cons_append, List.nil_append, List.append_nil]
              refine wp_if_ne (pc' := 37) (pt := 40) rfl rfl rfl (fun q_326 => absurd q_326 (by decide)) (fun q_326 => ?_)
              refine wp_bipush (a := -9) (pc' := 39) rfl rfl rfl ?_
              refine wp_ret rfl rfl rfl ?_
              first
              | (exfalso; omega)
              | exact ⟨rfl, rfl, hI⟩
  · skip
    rw [hv1, hw9]
    clear hv1 hw9 v1 w9
    dsimp only [Option.toList, List.cons_append, List.nil_append, List.append_nil]
    refine wp_if_ne (pc' := 7) (pt := 9) rfl rfl rfl (fun q_327 => absurd q_327 (by decide)) (fun q_327 => ?_)
    refine wp_iconst (a := -1) (pc' := 8) rfl rfl rfl ?_
    refine wp_ret rfl rfl rfl ?_
    refine ⟨_, rfl, ?_, ?_⟩
    · rfl
    refine wp_aload_n (pc' := 1) rfl rfl rfl (by decide) ?_
    refine wp_iload_n (pc' := 2) rfl rfl rfl ?_
    refine wp_iconst (a := 0) (pc' := 3) rfl rfl rfl ?_
    refine wp_iconst (a := 4) (pc' := 4) rfl rfl rfl ?_
    refine wp_call (pc' := 7) rfl rfl rfl rfl rfl ⟨Nat.le_of_ble_eq_true rfl, Nat.le_of_ble_eq_true rfl, Nat.le_of_ble_eq_true rfl, Nat.le_of_ble_eq_true rfl, Nat.le_of_ble_eq_true rfl⟩ rfl (c_Mod_in) ?_
    rintro v1 w9 ⟨hw9, ⟨hv1, hin⟩ | ⟨hv1, hin⟩⟩
    · skip
      rw [hv1, hw9]
      clear hv1 hw9 v1 w9
      dsimp only [Option.toList, List.cons_append, List.nil_append, List.append_nil]
      refine wp_call (pc' := 10) rfl rfl rfl rfl rfl ⟨Nat.le_of_ble_eq_true rfl, Nat.le_of_ble_eq_true rfl, Nat.le_of_ble_eq_true rfl, Nat.le_of_ble_eq_true rfl, Nat.le_of_ble_eq_true rfl⟩ rfl (c_Mod_need (by decide)) ?_
      rintro v1 w9 ⟨hw9, ⟨hv1, hg1⟩ | ⟨hv1, hg1, hg2⟩ | ⟨hv1, hg1, hg2⟩⟩
      · skip
        rw [hv1, hw9]
        clear hv1 hw9 v1 w9
        dsimp only [Option.toList, List.cons_append, List.nil_append, List.append_nil]
        refine wp_istore_n (pc' := 11) rfl rfl (Nat.le_of_ble_eq_true rfl) rfl ?_
        dsimp only [lset, lset2, List.set, List.getElem?_cons_zero, List.getElem?_cons_succ]
        refine wp_iload_n (pc' := 12) rfl rfl rfl ?_
        refine wp_if_ge (pc' := 15) (pt := 17) rfl rfl rfl (fun q_378 => absurd q_378 (by decide)) (fun q_378 => ?_)
        refine wp_iload_n (pc' := 16) rfl rfl rfl ?_
        refine wp_ret rfl rfl rfl ?_
        first
        | (exfalso; omega)
        | exact ⟨rfl, rfl, hI⟩
      · skip
        rw [hv1, hw9]
        clear hv1 hw9 v1 w9
        dsimp only [Option.toList, List.cons_append, List.nil_append, List.append_nil]
        refine wp_istore_n (pc' := 11) rfl rfl (Nat.le_of_ble_eq_true rfl) rfl ?_
        dsimp only [lset, lset2, List.set, List.getElem?_cons_zero, List.getElem?_cons_succ]
        refine wp_iload_n (pc' := 12) rfl rfl rfl ?_
        refine wp_if_ge (pc' := 15) (pt := 17) rfl rfl rfl (fun q_379 => absurd q_379 (by decide)) (fun q_379 => ?_)
        refine wp_iload_n (pc' := 16) rfl rfl rfl ?_
        refine wp_ret rfl rfl rfl ?_
        first
        | (exfalso; omega)
        | exact ⟨rfl, rfl, hI⟩
      · skip
        rw [hv1, hw9]
        clear hv1 hw9 v1 w9
        dsimp only [Option.toList, List.cons_append, List.nil_append, List.append_nil]
        refine wp_istore_n (pc' := 11) rfl rfl (Nat.le_of_ble_eq_true rfl) rfl ?_
        dsimp only [lset, lset2, List.set, List.getElem?_cons_zero, List.getElem?_cons_succ]
        refine wp_iload_n (pc' := 12) rfl rfl rfl ?_
        refine wp_if_ge (pc' := 15) (pt := 17) rfl rfl rfl (fun q_380 => ?_) (fun q_380 => absurd (by decide) q_380)
        exfalso; omega
    · skip
      rw [hv1, hw9]
      clear hv1 hw9 v1 w9
      dsimp only [Option.toList, List.cons_append, List.nil_append, List.append_nil]
      refine wp_call (pc' := 10) rfl rfl rfl rfl rfl ⟨Nat.le_of_ble_eq_true rfl, Nat.le_of_ble_eq_true rfl, Nat.le_of_ble_eq_true rfl, Nat.le_of_ble_eq_true rfl, Nat.le_of_ble_eq_true rfl⟩ rfl (c_Mod_need (by decide)) ?_
      rintro v1 w9 ⟨hw9, ⟨hv1, hg1⟩ | ⟨hv1, hg1, hg2⟩ | ⟨hv1, hg1, hg2⟩⟩
      · skip
        rw [hv1, hw9]
        clear hv1 hw9 v1 w9
        dsimp only [Option.toList, List.cons_append, List.nil_append, List.append_nil]
        refine wp_istore_n (pc' := 11) rfl rfl (Nat.le_of_ble_eq_true rfl) rfl ?_
        dsimp only [lset, lset2, List.set, List.getElem?_cons_zero, List.getElem?_cons_succ]
        refine wp_iload_n (pc' := 12) rfl rfl rfl ?_
        refine wp_if_ge (pc' := 15) (pt := 17) rfl rfl rfl (fun q_381 => absurd q_381 (by decide)) (fun q_381 => ?_)
        refine wp_iload_n (pc' := 16) rfl rfl rfl ?_
        refine wp_ret rfl rfl rfl ?_
        first
        | (exfalso; omega)
        | exact ⟨rfl, rfl, hI⟩
      · skip
        rw [hv1, hw9]
        clear hv1 hw9 v1 w9
        dsimp only [Option.toList, List.cons_append, List.nil_append, List.append_nil]
        refine wp_istore_n (pc' := 11) rfl rfl (Nat.le_of_ble_eq_true rfl) rfl ?_
        dsimp only [lset, lset2, List.set, List.getElem?_cons_zero, List.getElem?_cons_succ]
        refine wp_iload_n (pc' := 12) rfl rfl rfl ?_
        refine wp_if_ge (pc' := 15) (pt := 17) rfl rfl rfl (fun q_382 => absurd q_382 (by decide)) (fun q_382 => ?_)
        refine wp_iload_n (pc' := 16) rfl rfl rfl ?_
        refine wp_ret rfl rfl rfl ?_
        first
        | (exfalso; omega)
        | exact ⟨rfl, rfl, hI⟩
      · skip
        rw [hv1, hw9]
        clear hv1 hw9 v1 w9
        dsimp only [Option.toList, List.cons_append, List.nil_append, List.append_nil]
        refine wp_istore_n (pc' := 11) rfl rfl (Nat.le_of_ble_eq_true rfl) rfl ?_
        dsimp only [lset, lset2, List.set, List.getElem?_cons_zero, List.getElem?_cons_succ]
        refine wp_iload_n (pc' := 12) rfl rfl rfl ?_
        refine wp_if_ge (pc' := 15) (pt := 17) rfl rfl rfl (fun q_383 => ?_) (fun q_383 => absurd (by decide) q_383)
        exfalso; omega
