/-! votes -/
theorem vSt_can {c l k h cell back : Int} {m : Nat} {b a : Int} (hba : (b, a) = vSt c l k h cell back m) (hcan : (m : Int) + 1 ≠ back ∧ sBeside c l cell ((m : Int) + 1) ≠ -1) : vSt c l k h cell back (m + 1) = (if sG c k h (sBeside c l cell b) < sG c k h (sBeside c l cell ((m : Int) + 1)) then (m : Int) + 1 else b, if a = 1 ∧ sG c k h (sBeside c l cell ((m : Int) + 1)) = sG c k h cell then 1 else 0) := by
  rw [vSt, if_pos hcan, ← hba]
theorem vSt_not {c l k h cell back : Int} {m : Nat} {b a : Int} (hba : (b, a) = vSt c l k h cell back m) (hcan : ¬ ((m : Int) + 1 ≠ back ∧ sBeside c l cell ((m : Int) + 1) ≠ -1)) : vSt c l k h cell back (m + 1) = (b, a) := by
  rw [vSt, if_neg hcan, ← hba]
set_option maxRecDepth 20000 in
set_option maxHeartbeats 4000000 in
theorem l_choiceOf {w : Hp} {d : Nat} {i cell back : Int} (hc : CL (w 3 0) (w 3 1)) (hr : ROw w) (hT : Stc w) (hi : 0 ≤ i ∧ i < 6) (hk : 0 ≤ w 4 i ∧ w 4 i ≤ 5) (hx : Cel (w 3 0) (w 3 1) cell) (hh : Cel (w 3 0) (w 3 1) (w 5 i)) : ∀ (k m : Nat) (b a mo way : Int) (x9 : Option PV), m + k = 4 → (b, a) = vSt (w 3 0) (w 3 1) (w 4 i) (w 5 i) cell back m → mo = sG (w 3 0) (w 4 i) (w 5 i) (sBeside (w 3 0) (w 3 1) cell b) → way = (m : Int) + 1 → WP SH (d + 3) 3 21 [some (vR 3), some (vI i), some (vI cell), some (vI back), some (vI (sG (w 3 0) (w 4 i) (w 5 i) cell)), some (vI mo), some (vI b), some (vI a), some (vI way), x9] [] w (fun v w' => v = some (vI (sVote (w 3 0) (w 3 1) (w 4 i) (w 5 i) cell back)) ∧ w' = w) := by
  intro k
  induction k with
  | zero =>
    intro m b a mo way x9 hmk hba hmo hway
    have hok := @vSt_ok _ _ (w 4 i) (w 5 i) cell back hc hx m
    rw [← hba] at hok
    dsimp only at hok
    have hcd := hx.dm hc
    refine wp_iload (pc' := 23) rfl rfl rfl ?_
    refine wp_iconst (a := 4) (pc' := 24) rfl rfl rfl ?_
    refine wp_icmp_gt (pc' := 27) (pt := 95) rfl rfl rfl (fun q_1 => ?_) (fun q_1 => ?_)
    · skip
      refine wp_iload (pc' := 97) rfl rfl rfl ?_
      refine wp_if_eq (pc' := 100) (pt := 114) rfl rfl rfl (fun q_2 => ?_) (fun q_2 => ?_)
      · skip
        refine wp_iload (pc' := 116) rfl rfl rfl ?_
        refine wp_ret rfl rfl rfl ?_
        refine ⟨congrArg (fun z => some (vI z)) ?_, rfl⟩
        obtain rfl : m = 4 := by omega
        unfold sVote
        rw [← hba]
        dsimp only
        try unfold sWider at *
        (repeat' split at *) <;> (repeat' split) <;> omega
      · skip
        refine wp_aload_n (pc' := 101) rfl rfl rfl (by decide) ?_
        refine wp_iload_n (pc' := 102) rfl rfl rfl ?_
        refine wp_iconst (a := 3) (pc' := 103) rfl rfl rfl ?_
        refine wp_call (pc' := 106) rfl rfl rfl rfl rfl ⟨Nat.le_of_ble_eq_true rfl, Nat.le_of_ble_eq_true rfl, Nat.le_of_ble_eq_true rfl, Nat.le_of_ble_eq_true rfl, Nat.le_of_ble_eq_true rfl⟩ rfl (c_Land_isOf hr hT hi hk) ?_
        rintro v1 w1 ⟨hw1, ⟨hv1, hb1⟩ | ⟨hv1, hb1⟩⟩
        · skip
          rw [hv1, hw1]
          clear hv1 hw1 v1 w1
          dsimp only [Option.toList, List.cons_append, List.nil_append, List.append_nil]
          refine wp_if_eq (pc' := 109) (pt := 114) rfl rfl rfl (fun q_3 => absurd q_3 (by decide)) (fun q_3 => ?_)
          refine wp_bipush (a := -9) (pc' := 111) rfl rfl rfl ?_
          refine wp_goto (pc' := 116) rfl rfl ?_
          refine wp_ret rfl rfl rfl ?_
          refine ⟨congrArg (fun z => some (vI z)) ?_, rfl⟩
          obtain rfl : m = 4 := by omega
          unfold sVote
          rw [← hba]
          dsimp only
          try unfold sWider at *
          (repeat' split at *) <;> (repeat' split) <;> omega
        · skip
          rw [hv1, hw1]
          clear hv1 hw1 v1 w1
          dsimp only [Option.toList, List.cons_append, List.nil_append, List.append_nil]
          refine wp_if_eq (pc' := 109) (pt := 114) rfl rfl rfl (fun q_4 => ?_) (fun q_4 => absurd (by decide) q_4)
          refine wp_iload (pc' := 116) rfl rfl rfl ?_
          refine wp_ret rfl rfl rfl ?_
          refine ⟨congrArg (fun z => some (vI z)) ?_, rfl⟩
          obtain rfl : m = 4 := by omega
          unfold sVote
          rw [← hba]
          dsimp only
          try unfold sWider at *
          (repeat' split at *) <;> (repeat' split) <;> omega
    · skip
      exfalso; omega
  | succ k ih =>
    intro m b a mo way x9 hmk hba hmo hway
    have hok := @vSt_ok _ _ (w 4 i) (w 5 i) cell back hc hx m
    rw [← hba] at hok
    dsimp only at hok
    have hcd := hx.dm hc
    refine wp_iload (pc' := 23) rfl rfl rfl ?_
    refine wp_iconst (a := 4) (pc' := 24) rfl rfl rfl ?_
    refine wp_icmp_gt (pc' := 27) (pt := 95) rfl rfl rfl (fun q_1 => ?_) (fun q_1 => ?_)
    · skip
      exfalso; omega
    · skip
      refine wp_aload_n (pc' := 28) rfl rfl rfl (by decide) ?_
      refine wp_iload_n (pc' := 29) rfl rfl rfl ?_
      refine wp_iload_n (pc' := 30) rfl rfl rfl ?_
      refine wp_iload (pc' := 32) rfl rfl rfl ?_
      refine wp_call (pc' := 35) rfl rfl rfl rfl rfl ⟨Nat.le_of_ble_eq_true rfl, Nat.le_of_ble_eq_true rfl, Nat.le_of_ble_eq_true rfl, Nat.le_of_ble_eq_true rfl, Nat.le_of_ble_eq_true rfl⟩ rfl (c_Land_canGo hc hx) ?_
      rintro v1 w1 ⟨hw1, ⟨hv1, hb1⟩ | ⟨hv1, hb1⟩⟩
      · skip
        rw [hv1, hw1]
        clear hv1 hw1 v1 w1
        dsimp only [Option.toList, List.cons_append, List.nil_append, List.append_nil]
        refine wp_if_ne (pc' := 38) (pt := 41) rfl rfl rfl (fun q_2 => ?_) (fun q_2 => absurd (by decide) q_2)
        refine wp_aload_n (pc' := 42) rfl rfl rfl (by decide) ?_
        refine wp_iload_n (pc' := 43) rfl rfl rfl ?_
        refine wp_aload_n (pc' := 44) rfl rfl rfl (by decide) ?_
        refine wp_iload_n (pc' := 45) rfl rfl rfl ?_
        refine wp_iload (pc' := 47) rfl rfl rfl ?_
        refine wp_call (pc' := 50) rfl rfl rfl rfl rfl ⟨Nat.le_of_ble_eq_true rfl, Nat.le_of_ble_eq_true rfl, Nat.le_of_ble_eq_true rfl, Nat.le_of_ble_eq_true rfl, Nat.le_of_ble_eq_true rfl⟩ rfl (c_Land_beside hc hx) ?_
        intro v1 w1 hq1
        rw [hq1.1, hq1.2]
        clear hq1 v1 w1
        dsimp only [Option.toList, List.cons_append, List.nil_append, List.append_nil]
        refine wp_call (pc' := 53) rfl rfl rfl rfl rfl ⟨Nat.le_of_ble_eq_true rfl, Nat.le_of_ble_eq_true rfl, Nat.le_of_ble_eq_true rfl, Nat.le_of_ble_eq_true rfl, Nat.le_of_ble_eq_true rfl⟩ rfl (c_Land_gains hc hi hT (by first | exact hx | exact beside_cel hc hx (by omega)) hh) ?_
        intro v1 w1 hq1
        rw [hq1.1, hq1.2]
        clear hq1 v1 w1
        dsimp only [Option.toList, List.cons_append, List.nil_append, List.append_nil]
        refine wp_istore (pc' := 55) rfl rfl (Nat.le_of_ble_eq_true rfl) rfl ?_
        dsimp only [lset, lset2, List.set, List.getElem?_cons_zero, List.getElem?_cons_succ]
        refine wp_iload (pc' := 57) rfl rfl rfl ?_
        refine wp_if_eq (pc' := 60) (pt := 71) rfl rfl rfl (fun q_3 => ?_) (fun q_3 => ?_)
        · skip
          refine wp_iconst (a := 0) (pc' := 72) rfl rfl rfl ?_
          refine wp_istore (pc' := 74) rfl rfl (Nat.le_of_ble_eq_true rfl) rfl ?_
          dsimp only [lset, lset2, List.set, List.getElem?_cons_zero, List.getElem?_cons_succ]
          refine wp_iload (pc' := 76) rfl rfl rfl ?_
          refine wp_iload (pc' := 78) rfl rfl rfl ?_
          refine wp_icmp_le (pc' := 81) (pt := 89) rfl rfl rfl (fun q_4 => ?_) (fun q_4 => ?_)
          · skip
            refine wp_iinc (pc' := 92) rfl rfl rfl (inc_id (by omega) (by omega)) rfl ?_
            dsimp only [lset, lset2, List.set, List.getElem?_cons_zero, List.getElem?_cons_succ]
            refine wp_goto (pc' := 21) rfl rfl ?_
            exact ih (m + 1) _ _ _ _ _ (by omega) (by subst hway; first | (rw [vSt_can hba (by omega)]; congr 1 <;> split <;> omega) | rw [vSt_not hba (by omega)]) (by first | assumption | (subst hway; rfl)) (by omega)
          · skip
            refine wp_iload (pc' := 83) rfl rfl rfl ?_
            refine wp_istore (pc' := 85) rfl rfl (Nat.le_of_ble_eq_true rfl) rfl ?_
            dsimp only [lset, lset2, List.set, List.getElem?_cons_zero, List.getElem?_cons_succ]
            refine wp_iload (pc' := 87) rfl rfl rfl ?_
            refine wp_istore (pc' := 89) rfl rfl (Nat.le_of_ble_eq_true rfl) rfl ?_
            dsimp only [lset, lset2, List.set, List.getElem?_cons_zero, List.getElem?_cons_succ]
            refine wp_iinc (pc' := 92) rfl rfl rfl (inc_id (by omega) (by omega)) rfl ?_
            dsimp only [lset, lset2, List.set, List.getElem?_cons_zero, List.getElem?_cons_succ]
            refine wp_goto (pc' := 21) rfl rfl ?_
            exact ih (m + 1) _ _ _ _ _ (by omega) (by subst hway; first | (rw [vSt_can hba (by omega)]; congr 1 <;> split <;> omega) | rw [vSt_not hba (by omega)]) (by first | assumption | (subst hway; rfl)) (by omega)
        · skip
          refine wp_iload (pc' := 62) rfl rfl rfl ?_
          refine wp_iload (pc' := 64) rfl rfl rfl ?_
          refine wp_icmp_ne (pc' := 67) (pt := 71) rfl rfl rfl (fun q_5 => ?_) (fun q_5 => ?_)
          · skip
            refine wp_iconst (a := 0) (pc' := 72) rfl rfl rfl ?_
            refine wp_istore (pc' := 74) rfl rfl (Nat.le_of_ble_eq_true rfl) rfl ?_
            dsimp only [lset, lset2, List.set, List.getElem?_cons_zero, List.getElem?_cons_succ]
            refine wp_iload (pc' := 76) rfl rfl rfl ?_
            refine wp_iload (pc' := 78) rfl rfl rfl ?_
            refine wp_icmp_le (pc' := 81) (pt := 89) rfl rfl rfl (fun q_6 => ?_) (fun q_6 => ?_)
            · skip
              refine wp_iinc (pc' := 92) rfl rfl rfl (inc_id (by omega) (by omega)) rfl ?_
              dsimp only [lset, lset2, List.set, List.getElem?_cons_zero, List.getElem?_cons_succ]
              refine wp_goto (pc' := 21) rfl rfl ?_
              exact ih (m + 1) _ _ _ _ _ (by omega) (by subst hway; first | (rw [vSt_can hba (by omega)]; congr 1 <;> split <;> omega) | rw [vSt_not hba (by omega)]) (by first | assumption | (subst hway; rfl)) (by omega)
            · skip
              refine wp_iload (pc' := 83) rfl rfl rfl ?_
              refine wp_istore (pc' := 85) rfl rfl (Nat.le_of_ble_eq_true rfl) rfl ?_
              dsimp only [lset, lset2, List.set, List.getElem?_cons_zero, List.getElem?_cons_succ]
              refine wp_iload (pc' := 87) rfl rfl rfl ?_
              refine wp_istore (pc' := 89) rfl rfl (Nat.le_of_ble_eq_true rfl) rfl ?_
              dsimp only [lset, lset2, List.set, List.getElem?_cons_zero, List.getElem?_cons_succ]
              refine wp_iinc (pc' := 92) rfl rfl rfl (inc_id (by omega) (by omega)) rfl ?_
              dsimp only [lset, lset2, List.set, List.getElem?_cons_zero, List.getElem?_cons_succ]
              refine wp_goto (pc' := 21) rfl rfl ?_
              exact ih (m + 1) _ _ _ _ _ (by omega) (by subst hway; first | (rw [vSt_can hba (by omega)]; congr 1 <;> split <;> omega) | rw [vSt_not hba (by omega)]) (by first | assumption | (subst hway; rfl)) (by omega)
          · skip
            refine wp_iconst (a := 1) (pc' := 68) rfl rfl rfl ?_
            refine wp_goto (pc' := 72) rfl rfl ?_
            refine wp_istore (pc' := 74) rfl rfl (Nat.le_of_ble_eq_true rfl) rfl ?_
            dsimp only [lset, lset2, List.set, List.getElem?_cons_zero, List.getElem?_cons_succ]
            refine wp_iload (pc' := 76) rfl rfl rfl ?_
            refine wp_iload (pc' := 78) rfl rfl rfl ?_
            refine wp_icmp_le (pc' := 81) (pt := 89) rfl rfl rfl (fun q_7 => ?_) (fun q_7 => ?_)
            · skip
              refine wp_iinc (pc' := 92) rfl rfl rfl (inc_id (by omega) (by omega)) rfl ?_
              dsimp only [lset, lset2, List.set, List.getElem?_cons_zero, List.getElem?_cons_succ]
              refine wp_goto (pc' := 21) rfl rfl ?_
              exact ih (m + 1) _ _ _ _ _ (by omega) (by subst hway; first | (rw [vSt_can hba (by omega)]; congr 1 <;> split <;> omega) | rw [vSt_not hba (by omega)]) (by first | assumption | (subst hway; rfl)) (by omega)
            · skip
              refine wp_iload (pc' := 83) rfl rfl rfl ?_
              refine wp_istore (pc' := 85) rfl rfl (Nat.le_of_ble_eq_true rfl) rfl ?_
              dsimp only [lset, lset2, List.set, List.getElem?_cons_zero, List.getElem?_cons_succ]
              refine wp_iload (pc' := 87) rfl rfl rfl ?_
              refine wp_istore (pc' := 89) rfl rfl (Nat.le_of_ble_eq_true rfl) rfl ?_
              dsimp only [lset, lset2, List.set, List.getElem?_cons_zero, List.getElem?_cons_succ]
              refine wp_iinc (pc' := 92) rfl rfl rfl (inc_id (by omega) (by omega)) rfl ?_
              dsimp only [lset, lset2, List.set, List.getElem?_cons_zero, List.getElem?_cons_succ]
              refine wp_goto (pc' := 21) rfl rfl ?_
              exact ih (m + 1) _ _ _ _ _ (by omega) (by subst hway; first | (rw [vSt_can hba (by omega)]; congr 1 <;> split <;> omega) | rw [vSt_not hba (by omega)]) (by first | assumption | (subst hway; rfl)) (by omega)
      · skip
        rw [hv1, hw1]
        clear hv1 hw1 v1 w1
        dsimp only [Option.toList, List.cons_append, List.nil_append, List.append_nil]
        refine wp_if_ne (pc' := 38) (pt := 41) rfl rfl rfl (fun q_8 => absurd q_8 (by decide)) (fun q_8 => ?_)
        refine wp_goto (pc' := 89) rfl rfl ?_
        refine wp_iinc (pc' := 92) rfl rfl rfl (inc_id (by omega) (by omega)) rfl ?_
        dsimp only [lset, lset2, List.set, List.getElem?_cons_zero, List.getElem?_cons_succ]
        refine wp_goto (pc' := 21) rfl rfl ?_
        exact ih (m + 1) _ _ _ _ _ (by omega) (by subst hway; first | (rw [vSt_can hba (by omega)]; congr 1 <;> split <;> omega) | rw [vSt_not hba (by omega)]) (by first | assumption | (subst hway; rfl)) (by omega)
set_option maxRecDepth 20000 in
set_option maxHeartbeats 4000000 in
theorem c_Ballot_choiceOf {w : Hp} {d : Nat} {i cell back : Int} (hc : CL (w 3 0) (w 3 1)) (hr : ROw w) (hT : Stc w) (hi : 0 ≤ i ∧ i < 6) (hk : 0 ≤ w 4 i ∧ w 4 i ≤ 5) (hx : Cel (w 3 0) (w 3 1) cell) (hh : Cel (w 3 0) (w 3 1) (w 5 i)) : WP SH (d + 3) 3 0 [some (vR 3), some (vI i), some (vI cell), some (vI back), none, none, none, none, none, none] [] w (fun v w' => v = some (vI (sVote (w 3 0) (w 3 1) (w 4 i) (w 5 i) cell back)) ∧ w' = w) := by
  refine wp_aload_n (pc' := 1) rfl rfl rfl (by decide) ?_
  refine wp_iload_n (pc' := 2) rfl rfl rfl ?_
  refine wp_iload_n (pc' := 3) rfl rfl rfl ?_
  refine wp_call (pc' := 6) rfl rfl rfl rfl rfl ⟨Nat.le_of_ble_eq_true rfl, Nat.le_of_ble_eq_true rfl, Nat.le_of_ble_eq_true rfl, Nat.le_of_ble_eq_true rfl, Nat.le_of_ble_eq_true rfl⟩ rfl (c_Land_gains hc hi hT (by first | exact hx | exact beside_cel hc hx (by omega)) hh) ?_
  intro v1 w1 hq1
  rw [hq1.1, hq1.2]
  clear hq1 v1 w1
  dsimp only [Option.toList, List.cons_append, List.nil_append, List.append_nil]
  refine wp_istore (pc' := 8) rfl rfl (Nat.le_of_ble_eq_true rfl) rfl ?_
  dsimp only [lset, lset2, List.set, List.getElem?_cons_zero, List.getElem?_cons_succ]
  refine wp_iload (pc' := 10) rfl rfl rfl ?_
  refine wp_istore (pc' := 12) rfl rfl (Nat.le_of_ble_eq_true rfl) rfl ?_
  dsimp only [lset, lset2, List.set, List.getElem?_cons_zero, List.getElem?_cons_succ]
  refine wp_iconst (a := 0) (pc' := 13) rfl rfl rfl ?_
  refine wp_istore (pc' := 15) rfl rfl (Nat.le_of_ble_eq_true rfl) rfl ?_
  dsimp only [lset, lset2, List.set, List.getElem?_cons_zero, List.getElem?_cons_succ]
  refine wp_iconst (a := 1) (pc' := 16) rfl rfl rfl ?_
  refine wp_istore (pc' := 18) rfl rfl (Nat.le_of_ble_eq_true rfl) rfl ?_
  dsimp only [lset, lset2, List.set, List.getElem?_cons_zero, List.getElem?_cons_succ]
  refine wp_iconst (a := 1) (pc' := 19) rfl rfl rfl ?_
  refine wp_istore (pc' := 21) rfl rfl (Nat.le_of_ble_eq_true rfl) rfl ?_
  dsimp only [lset, lset2, List.set, List.getElem?_cons_zero, List.getElem?_cons_succ]
  exact l_choiceOf hc hr hT hi hk hx hh 4 0 _ _ _ _ _ rfl rfl (by rw [beside0]) rfl
set_option maxRecDepth 20000 in
set_option maxHeartbeats 4000000 in
theorem l_voteOn {w : Hp} {d : Nat} {i cell back : Int} (hc : CL (w 100 11) (w 100 12)) (hT : Stc w) (hi : 0 ≤ i ∧ i < 6) (hx : Cel (w 100 11) (w 100 12) cell) (hh : Cel (w 100 11) (w 100 12) (w 109 (3 + i))) : ∀ (k m : Nat) (b a way : Int) (x7 : Option PV), m + k = 4 → (b, a) = vSt (w 100 11) (w 100 12) (w 107 i) (w 109 (3 + i)) cell back m → way = (m : Int) + 1 → WP SH (d + 4) 177 9 [some (vR 100), some (vI i), some (vI cell), some (vI back), some (vI b), some (vI a), some (vI way), x7] [] w (fun v w' => v = some (vI (sVote (w 100 11) (w 100 12) (w 107 i) (w 109 (3 + i)) cell back)) ∧ w' = w) := by
  intro k
  induction k with
  | zero =>
    intro m b a way x7 hmk hba hway
    have hok := @vSt_ok _ _ (w 107 i) (w 109 (3 + i)) cell back hc hx m
    rw [← hba] at hok
    dsimp only at hok
    have hcd := hx.dm hc
    refine wp_iload (pc' := 11) rfl rfl rfl ?_
    refine wp_iconst (a := 4) (pc' := 12) rfl rfl rfl ?_
    refine wp_icmp_gt (pc' := 15) (pt := 95) rfl rfl rfl (fun q_1 => ?_) (fun q_1 => ?_)
    · skip
      refine wp_iload (pc' := 97) rfl rfl rfl ?_
      refine wp_if_eq (pc' := 100) (pt := 125) rfl rfl rfl (fun q_2 => ?_) (fun q_2 => ?_)
      · skip
        refine wp_iload (pc' := 127) rfl rfl rfl ?_
        refine wp_ret rfl rfl rfl ?_
        refine ⟨congrArg (fun z => some (vI z)) ?_, rfl⟩
        obtain rfl : m = 4 := by omega
        unfold sVote
        rw [← hba]
        dsimp only
        try unfold sWider at *
        (repeat' split at *) <;> (repeat' split) <;> omega
      · skip
        refine wp_aload_n (pc' := 101) rfl rfl rfl (by decide) ?_
        refine wp_getR (r' := 107) (ci := 10) (k0 := 13) (pc' := 104) rfl rfl (by decide) (by first | assumption | rfl) (hT.get 105 rfl) ?_
        refine wp_iload_n (pc' := 105) rfl rfl rfl ?_
        refine wp_iaload (pc' := 106) rfl rfl (by first | assumption | rfl) (by omega) ?_
        refine wp_iconst (a := 3) (pc' := 107) rfl rfl rfl ?_
        refine wp_icmp_eq (pc' := 110) (pt := 120) rfl rfl rfl (fun q_3 => ?_) (fun q_3 => ?_)
        · skip
          refine wp_bipush (a := -9) (pc' := 122) rfl rfl rfl ?_
          refine wp_goto (pc' := 127) rfl rfl ?_
          refine wp_ret rfl rfl rfl ?_
          refine ⟨congrArg (fun z => some (vI z)) ?_, rfl⟩
          obtain rfl : m = 4 := by omega
          unfold sVote
          rw [← hba]
          dsimp only
          try unfold sWider at *
          (repeat' split at *) <;> (repeat' split) <;> omega
        · skip
          refine wp_aload_n (pc' := 111) rfl rfl rfl (by decide) ?_
          refine wp_getR (r' := 107) (ci := 10) (k0 := 13) (pc' := 114) rfl rfl (by decide) (by first | assumption | rfl) (hT.get 105 rfl) ?_
          refine wp_iload_n (pc' := 115) rfl rfl rfl ?_
          refine wp_iaload (pc' := 116) rfl rfl (by first | assumption | rfl) (by omega) ?_
          refine wp_iconst (a := 5) (pc' := 117) rfl rfl rfl ?_
          refine wp_icmp_ne (pc' := 120) (pt := 125) rfl rfl rfl (fun q_4 => ?_) (fun q_4 => ?_)
          · skip
            refine wp_iload (pc' := 127) rfl rfl rfl ?_
            refine wp_ret rfl rfl rfl ?_
            refine ⟨congrArg (fun z => some (vI z)) ?_, rfl⟩
            obtain rfl : m = 4 := by omega
            unfold sVote
            rw [← hba]
            dsimp only
            try unfold sWider at *
            (repeat' split at *) <;> (repeat' split) <;> omega
          · skip
            refine wp_bipush (a := -9) (pc' := 122) rfl rfl rfl ?_
            refine wp_goto (pc' := 127) rfl rfl ?_
            refine wp_ret rfl rfl rfl ?_
            refine ⟨congrArg (fun z => some (vI z)) ?_, rfl⟩
            obtain rfl : m = 4 := by omega
            unfold sVote
            rw [← hba]
            dsimp only
            try unfold sWider at *
            (repeat' split at *) <;> (repeat' split) <;> omega
    · skip
      exfalso; omega
  | succ k ih =>
    intro m b a way x7 hmk hba hway
    have hok := @vSt_ok _ _ (w 107 i) (w 109 (3 + i)) cell back hc hx m
    rw [← hba] at hok
    dsimp only at hok
    have hcd := hx.dm hc
    refine wp_iload (pc' := 11) rfl rfl rfl ?_
    refine wp_iconst (a := 4) (pc' := 12) rfl rfl rfl ?_
    refine wp_icmp_gt (pc' := 15) (pt := 95) rfl rfl rfl (fun q_1 => ?_) (fun q_1 => ?_)
    · skip
      exfalso; omega
    · skip
      refine wp_aload_n (pc' := 16) rfl rfl rfl (by decide) ?_
      refine wp_iload_n (pc' := 17) rfl rfl rfl ?_
      refine wp_iload_n (pc' := 18) rfl rfl rfl ?_
      refine wp_iload (pc' := 20) rfl rfl rfl ?_
      refine wp_call (pc' := 23) rfl rfl rfl rfl rfl ⟨Nat.le_of_ble_eq_true rfl, Nat.le_of_ble_eq_true rfl, Nat.le_of_ble_eq_true rfl, Nat.le_of_ble_eq_true rfl, Nat.le_of_ble_eq_true rfl⟩ rfl (c_Mod_canBe hc (by omega) hx) ?_
      rintro v1 w1 ⟨hw1, ⟨hv1, hb1⟩ | ⟨hv1, hb1⟩⟩
      · skip
        rw [hv1, hw1]
        clear hv1 hw1 v1 w1
        dsimp only [Option.toList, List.cons_append, List.nil_append, List.append_nil]
        refine wp_if_eq (pc' := 26) (pt := 89) rfl rfl rfl (fun q_2 => absurd q_2 (by decide)) (fun q_2 => ?_)
        refine wp_aload_n (pc' := 27) rfl rfl rfl (by decide) ?_
        refine wp_iload_n (pc' := 28) rfl rfl rfl ?_
        refine wp_aload_n (pc' := 29) rfl rfl rfl (by decide) ?_
        refine wp_iload_n (pc' := 30) rfl rfl rfl ?_
        refine wp_iload (pc' := 32) rfl rfl rfl ?_
        refine wp_call (pc' := 35) rfl rfl rfl rfl rfl ⟨Nat.le_of_ble_eq_true rfl, Nat.le_of_ble_eq_true rfl, Nat.le_of_ble_eq_true rfl, Nat.le_of_ble_eq_true rfl, Nat.le_of_ble_eq_true rfl⟩ rfl (c_Mod_beside hc (by omega) hx) ?_
        intro v1 w1 hq1
        rw [hq1.1, hq1.2]
        clear hq1 v1 w1
        dsimp only [Option.toList, List.cons_append, List.nil_append, List.append_nil]
        refine wp_call (pc' := 38) rfl rfl rfl rfl rfl ⟨Nat.le_of_ble_eq_true rfl, Nat.le_of_ble_eq_true rfl, Nat.le_of_ble_eq_true rfl, Nat.le_of_ble_eq_true rfl, Nat.le_of_ble_eq_true rfl⟩ rfl (c_Mod_gainOn hc hi hT (by first | exact hx | exact beside_cel hc hx (by omega)) hh) ?_
        intro v1 w1 hq1
        rw [hq1.1, hq1.2]
        clear hq1 v1 w1
        dsimp only [Option.toList, List.cons_append, List.nil_append, List.append_nil]
        refine wp_istore (pc' := 40) rfl rfl (Nat.le_of_ble_eq_true rfl) rfl ?_
        dsimp only [lset, lset2, List.set, List.getElem?_cons_zero, List.getElem?_cons_succ]
        refine wp_iload (pc' := 42) rfl rfl rfl ?_
        refine wp_if_eq (pc' := 45) (pt := 60) rfl rfl rfl (fun q_3 => ?_) (fun q_3 => ?_)
        · skip
          refine wp_iconst (a := 0) (pc' := 61) rfl rfl rfl ?_
          refine wp_istore (pc' := 63) rfl rfl (Nat.le_of_ble_eq_true rfl) rfl ?_
          dsimp only [lset, lset2, List.set, List.getElem?_cons_zero, List.getElem?_cons_succ]
          refine wp_iload (pc' := 65) rfl rfl rfl ?_
          refine wp_aload_n (pc' := 66) rfl rfl rfl (by decide) ?_
          refine wp_iload_n (pc' := 67) rfl rfl rfl ?_
          refine wp_aload_n (pc' := 68) rfl rfl rfl (by decide) ?_
          refine wp_iload_n (pc' := 69) rfl rfl rfl ?_
          refine wp_iload (pc' := 71) rfl rfl rfl ?_
          refine wp_call (pc' := 74) rfl rfl rfl rfl rfl ⟨Nat.le_of_ble_eq_true rfl, Nat.le_of_ble_eq_true rfl, Nat.le_of_ble_eq_true rfl, Nat.le_of_ble_eq_true rfl, Nat.le_of_ble_eq_true rfl⟩ rfl (c_Mod_beside hc (by omega) hx) ?_
          intro v1 w1 hq1
          rw [hq1.1, hq1.2]
          clear hq1 v1 w1
          dsimp only [Option.toList, List.cons_append, List.nil_append, List.append_nil]
          refine wp_call (pc' := 77) rfl rfl rfl rfl rfl ⟨Nat.le_of_ble_eq_true rfl, Nat.le_of_ble_eq_true rfl, Nat.le_of_ble_eq_true rfl, Nat.le_of_ble_eq_true rfl, Nat.le_of_ble_eq_true rfl⟩ rfl (c_Mod_gainOn hc hi hT (by first | exact hx | exact beside_cel hc hx (by omega)) hh) ?_
          intro v1 w1 hq1
          rw [hq1.1, hq1.2]
          clear hq1 v1 w1
          dsimp only [Option.toList, List.cons_append, List.nil_append, List.append_nil]
          refine wp_icmp_le (pc' := 80) (pt := 85) rfl rfl rfl (fun q_4 => ?_) (fun q_4 => ?_)
          · skip
            refine wp_iload (pc' := 87) rfl rfl rfl ?_
            refine wp_istore (pc' := 89) rfl rfl (Nat.le_of_ble_eq_true rfl) rfl ?_
            dsimp only [lset, lset2, List.set, List.getElem?_cons_zero, List.getElem?_cons_succ]
            refine wp_iinc (pc' := 92) rfl rfl rfl (inc_id (by omega) (by omega)) rfl ?_
            dsimp only [lset, lset2, List.set, List.getElem?_cons_zero, List.getElem?_cons_succ]
            refine wp_goto (pc' := 9) rfl rfl ?_
            exact ih (m + 1) _ _ _ _ (by omega) (by subst hway; first | (rw [vSt_can hba (by omega)]; congr 1 <;> split <;> omega) | rw [vSt_not hba (by omega)]) (by omega)
          · skip
            refine wp_iload (pc' := 82) rfl rfl rfl ?_
            refine wp_goto (pc' := 87) rfl rfl ?_
            refine wp_istore (pc' := 89) rfl rfl (Nat.le_of_ble_eq_true rfl) rfl ?_
            dsimp only [lset, lset2, List.set, List.getElem?_cons_zero, List.getElem?_cons_succ]
            refine wp_iinc (pc' := 92) rfl rfl rfl (inc_id (by omega) (by omega)) rfl ?_
            dsimp only [lset, lset2, List.set, List.getElem?_cons_zero, List.getElem?_cons_succ]
            refine wp_goto (pc' := 9) rfl rfl ?_
            exact ih (m + 1) _ _ _ _ (by omega) (by subst hway; first | (rw [vSt_can hba (by omega)]; congr 1 <;> split <;> omega) | rw [vSt_not hba (by omega)]) (by omega)
        · skip
          refine wp_iload (pc' := 47) rfl rfl rfl ?_
          refine wp_aload_n (pc' := 48) rfl rfl rfl (by decide) ?_
          refine wp_iload_n (pc' := 49) rfl rfl rfl ?_
          refine wp_iload_n (pc' := 50) rfl rfl rfl ?_
          refine wp_call (pc' := 53) rfl rfl rfl rfl rfl ⟨Nat.le_of_ble_eq_true rfl, Nat.le_of_ble_eq_true rfl, Nat.le_of_ble_eq_true rfl, Nat.le_of_ble_eq_true rfl, Nat.le_of_ble_eq_true rfl⟩ rfl (c_Mod_gainOn hc hi hT (by first | exact hx | exact beside_cel hc hx (by omega)) hh) ?_
          intro v1 w1 hq1
          rw [hq1.1, hq1.2]
          clear hq1 v1 w1
          dsimp only [Option.toList, List.cons_append, List.nil_append, List.append_nil]
          refine wp_icmp_ne (pc' := 56) (pt := 60) rfl rfl rfl (fun q_5 => ?_) (fun q_5 => ?_)
          · skip
            refine wp_iconst (a := 0) (pc' := 61) rfl rfl rfl ?_
            refine wp_istore (pc' := 63) rfl rfl (Nat.le_of_ble_eq_true rfl) rfl ?_
            dsimp only [lset, lset2, List.set, List.getElem?_cons_zero, List.getElem?_cons_succ]
            refine wp_iload (pc' := 65) rfl rfl rfl ?_
            refine wp_aload_n (pc' := 66) rfl rfl rfl (by decide) ?_
            refine wp_iload_n (pc' := 67) rfl rfl rfl ?_
            refine wp_aload_n (pc' := 68) rfl rfl rfl (by decide) ?_
            refine wp_iload_n (pc' := 69) rfl rfl rfl ?_
            refine wp_iload (pc' := 71) rfl rfl rfl ?_
            refine wp_call (pc' := 74) rfl rfl rfl rfl rfl ⟨Nat.le_of_ble_eq_true rfl, Nat.le_of_ble_eq_true rfl, Nat.le_of_ble_eq_true rfl, Nat.le_of_ble_eq_true rfl, Nat.le_of_ble_eq_true rfl⟩ rfl (c_Mod_beside hc (by omega) hx) ?_
            intro v1 w1 hq1
            rw [hq1.1, hq1.2]
            clear hq1 v1 w1
            dsimp only [Option.toList, List.cons_append, List.nil_append, List.append_nil]
            refine wp_call (pc' := 77) rfl rfl rfl rfl rfl ⟨Nat.le_of_ble_eq_true rfl, Nat.le_of_ble_eq_true rfl, Nat.le_of_ble_eq_true rfl, Nat.le_of_ble_eq_true rfl, Nat.le_of_ble_eq_true rfl⟩ rfl (c_Mod_gainOn hc hi hT (by first | exact hx | exact beside_cel hc hx (by omega)) hh) ?_
            intro v1 w1 hq1
            rw [hq1.1, hq1.2]
            clear hq1 v1 w1
            dsimp only [Option.toList, List.cons_append, List.nil_append, List.append_nil]
            refine wp_icmp_le (pc' := 80) (pt := 85) rfl rfl rfl (fun q_6 => ?_) (fun q_6 => ?_)
            · skip
              refine wp_iload (pc' := 87) rfl rfl rfl ?_
              refine wp_istore (pc' := 89) rfl rfl (Nat.le_of_ble_eq_true rfl) rfl ?_
              dsimp only [lset, lset2, List.set, List.getElem?_cons_zero, List.getElem?_cons_succ]
              refine wp_iinc (pc' := 92) rfl rfl rfl (inc_id (by omega) (by omega)) rfl ?_
              dsimp only [lset, lset2, List.set, List.getElem?_cons_zero, List.getElem?_cons_succ]
              refine wp_goto (pc' := 9) rfl rfl ?_
              exact ih (m + 1) _ _ _ _ (by omega) (by subst hway; first | (rw [vSt_can hba (by omega)]; congr 1 <;> split <;> omega) | rw [vSt_not hba (by omega)]) (by omega)
            · skip
              refine wp_iload (pc' := 82) rfl rfl rfl ?_
              refine wp_goto (pc' := 87) rfl rfl ?_
              refine wp_istore (pc' := 89) rfl rfl (Nat.le_of_ble_eq_true rfl) rfl ?_
              dsimp only [lset, lset2, List.set, List.getElem?_cons_zero, List.getElem?_cons_succ]
              refine wp_iinc (pc' := 92) rfl rfl rfl (inc_id (by omega) (by omega)) rfl ?_
              dsimp only [lset, lset2, List.set, List.getElem?_cons_zero, List.getElem?_cons_succ]
              refine wp_goto (pc' := 9) rfl rfl ?_
              exact ih (m + 1) _ _ _ _ (by omega) (by subst hway; first | (rw [vSt_can hba (by omega)]; congr 1 <;> split <;> omega) | rw [vSt_not hba (by omega)]) (by omega)
          · skip
            refine wp_iconst (a := 1) (pc' := 57) rfl rfl rfl ?_
            refine wp_goto (pc' := 61) rfl rfl ?_
            refine wp_istore (pc' := 63) rfl rfl (Nat.le_of_ble_eq_true rfl) rfl ?_
            dsimp only [lset, lset2, List.set, List.getElem?_cons_zero, List.getElem?_cons_succ]
            refine wp_iload (pc' := 65) rfl rfl rfl ?_
            refine wp_aload_n (pc' := 66) rfl rfl rfl (by decide) ?_
            refine wp_iload_n (pc' := 67) rfl rfl rfl ?_
            refine wp_aload_n (pc' := 68) rfl rfl rfl (by decide) ?_
            refine wp_iload_n (pc' := 69) rfl rfl rfl ?_
            refine wp_iload (pc' := 71) rfl rfl rfl ?_
            refine wp_call (pc' := 74) rfl rfl rfl rfl rfl ⟨Nat.le_of_ble_eq_true rfl, Nat.le_of_ble_eq_true rfl, Nat.le_of_ble_eq_true rfl, Nat.le_of_ble_eq_true rfl, Nat.le_of_ble_eq_true rfl⟩ rfl (c_Mod_beside hc (by omega) hx) ?_
            intro v1 w1 hq1
            rw [hq1.1, hq1.2]
            clear hq1 v1 w1
            dsimp only [Option.toList, List.cons_append, List.nil_append, List.append_nil]
            refine wp_call (pc' := 77) rfl rfl rfl rfl rfl ⟨Nat.le_of_ble_eq_true rfl, Nat.le_of_ble_eq_true rfl, Nat.le_of_ble_eq_true rfl, Nat.le_of_ble_eq_true rfl, Nat.le_of_ble_eq_true rfl⟩ rfl (c_Mod_gainOn hc hi hT (by first | exact hx | exact beside_cel hc hx (by omega)) hh) ?_
            intro v1 w1 hq1
            rw [hq1.1, hq1.2]
            clear hq1 v1 w1
            dsimp only [Option.toList, List.cons_append, List.nil_append, List.append_nil]
            refine wp_icmp_le (pc' := 80) (pt := 85) rfl rfl rfl (fun q_7 => ?_) (fun q_7 => ?_)
            · skip
              refine wp_iload (pc' := 87) rfl rfl rfl ?_
              refine wp_istore (pc' := 89) rfl rfl (Nat.le_of_ble_eq_true rfl) rfl ?_
              dsimp only [lset, lset2, List.set, List.getElem?_cons_zero, List.getElem?_cons_succ]
              refine wp_iinc (pc' := 92) rfl rfl rfl (inc_id (by omega) (by omega)) rfl ?_
              dsimp only [lset, lset2, List.set, List.getElem?_cons_zero, List.getElem?_cons_succ]
              refine wp_goto (pc' := 9) rfl rfl ?_
              exact ih (m + 1) _ _ _ _ (by omega) (by subst hway; first | (rw [vSt_can hba (by omega)]; congr 1 <;> split <;> omega) | rw [vSt_not hba (by omega)]) (by omega)
            · skip
              refine wp_iload (pc' := 82) rfl rfl rfl ?_
              refine wp_goto (pc' := 87) rfl rfl ?_
              refine wp_istore (pc' := 89) rfl rfl (Nat.le_of_ble_eq_true rfl) rfl ?_
              dsimp only [lset, lset2, List.set, List.getElem?_cons_zero, List.getElem?_cons_succ]
              refine wp_iinc (pc' := 92) rfl rfl rfl (inc_id (by omega) (by omega)) rfl ?_
              dsimp only [lset, lset2, List.set, List.getElem?_cons_zero, List.getElem?_cons_succ]
              refine wp_goto (pc' := 9) rfl rfl ?_
              exact ih (m + 1) _ _ _ _ (by omega) (by subst hway; first | (rw [vSt_can hba (by omega)]; congr 1 <;> split <;> omega) | rw [vSt_not hba (by omega)]) (by omega)
      · skip
        rw [hv1, hw1]
        clear hv1 hw1 v1 w1
        dsimp only [Option.toList, List.cons_append, List.nil_append, List.append_nil]
        refine wp_if_eq (pc' := 26) (pt := 89) rfl rfl rfl (fun q_8 => ?_) (fun q_8 => absurd (by decide) q_8)
        refine wp_iinc (pc' := 92) rfl rfl rfl (inc_id (by omega) (by omega)) rfl ?_
        dsimp only [lset, lset2, List.set, List.getElem?_cons_zero, List.getElem?_cons_succ]
        refine wp_goto (pc' := 9) rfl rfl ?_
        exact ih (m + 1) _ _ _ _ (by omega) (by subst hway; first | (rw [vSt_can hba (by omega)]; congr 1 <;> split <;> omega) | rw [vSt_not hba (by omega)]) (by omega)
set_option maxRecDepth 20000 in
set_option maxHeartbeats 4000000 in
theorem c_Mod_voteOn {w : Hp} {d : Nat} {i cell back : Int} (hc : CL (w 100 11) (w 100 12)) (hT : Stc w) (hi : 0 ≤ i ∧ i < 6) (hx : Cel (w 100 11) (w 100 12) cell) (hh : Cel (w 100 11) (w 100 12) (w 109 (3 + i))) : WP SH (d + 4) 177 0 [some (vR 100), some (vI i), some (vI cell), some (vI back), none, none, none, none] [] w (fun v w' => v = some (vI (sVote (w 100 11) (w 100 12) (w 107 i) (w 109 (3 + i)) cell back)) ∧ w' = w) := by
  refine wp_iconst (a := 0) (pc' := 1) rfl rfl rfl ?_
  refine wp_istore (pc' := 3) rfl rfl (Nat.le_of_ble_eq_true rfl) rfl ?_
  dsimp only [lset, lset2, List.set, List.getElem?_cons_zero, List.getElem?_cons_succ]
  refine wp_iconst (a := 1) (pc' := 4) rfl rfl rfl ?_
  refine wp_istore (pc' := 6) rfl rfl (Nat.le_of_ble_eq_true rfl) rfl ?_
  dsimp only [lset, lset2, List.set, List.getElem?_cons_zero, List.getElem?_cons_succ]
  refine wp_iconst (a := 1) (pc' := 7) rfl rfl rfl ?_
  refine wp_istore (pc' := 9) rfl rfl (Nat.le_of_ble_eq_true rfl) rfl ?_
  dsimp only [lset, lset2, List.set, List.getElem?_cons_zero, List.getElem?_cons_succ]
  exact l_voteOn hc hT hi hx hh 4 0 _ _ _ _ rfl rfl rfl
