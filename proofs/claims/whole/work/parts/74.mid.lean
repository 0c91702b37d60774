/-! mid -/
set_option maxRecDepth 20000 in
set_option maxHeartbeats 4000000 in
theorem l_mid {w : Hp} {d : Nat} {p : Int} {Q : Option PV → Hp → Prop} (hT : Stc w) (hl : LnOK w) (hx : Cel (w 3 0) (w 3 1) (w 3 3)) (hval : ∀ q : Int, 0 ≤ q → q < 5 → 0 < w 51 q → sBeside (w 3 0) (w 3 1) (w 3 3) q ≠ -1) (hbz : ∀ q : Int, 0 ≤ q → q < 5 → 0 ≤ w 51 q ∧ w 51 q ≤ 191102976) (K : WP SH (d + 3) 114 136 [some (vR 0), some (vI p), some (vL (sumI (fun q => w 51 q * sumI (fWorth (w 3 0) (w 4) (w 5) (w 6) (sBeside (w 3 0) (w 3 1) (w 3 3) q)) (w 3 2)) 5)), none, some (vI 5)] [] w Q) : ∀ (k : Nat) (y s : Int), 0 ≤ y → y + k = 5 → s = sumI (fun q => w 51 q * sumI (fWorth (w 3 0) (w 4) (w 5) (w 6) (sBeside (w 3 0) (w 3 1) (w 3 3) q)) (w 3 2)) y → WP SH (d + 3) 114 71 [some (vR 0), some (vI p), some (vL s), none, some (vI y)] [] w Q := by
  intro k
  induction k with
  | zero =>
    intro y s h0 hyk hs
    have hln := hl.2.1
    have hwb : ∀ q : Int, 0 ≤ q → q < 5 → 0 ≤ w 51 q * sumI (fWorth (w 3 0) (w 4) (w 5) (w 6) (sBeside (w 3 0) (w 3 1) (w 3 3) q)) (w 3 2) ∧ w 51 q * sumI (fWorth (w 3 0) (w 4) (w 5) (w 6) (sBeside (w 3 0) (w 3 1) (w 3 3) q)) (w 3 2) ≤ 191102976 * 972 := fun q a b => by
      by_cases hz : 0 < w 51 q
      · have h1 := @worth_in (w 3 0) (w 3 1) (w 3 2) _ (w 4) (w 5) (w 6) hl.1 (beside_cel hl.1 hx (hval q a b hz)) (by omega) hln.2 (fun j c e => (hl.2.2 j c e).2.1) (fun j c e => (hl.2.2 j c e).2.2)
        exact mul_bd (hbz q a b).1 (hbz q a b).2 h1.1 h1.2
      · have h2 := hbz q a b
        rw [show w 51 q = 0 by omega, Int.zero_mul]
        decide
    have hbs := @sumI_bd (fun q => w 51 q * sumI (fWorth (w 3 0) (w 4) (w 5) (w 6) (sBeside (w 3 0) (w 3 1) (w 3 3) q)) (w 3 2)) 0 (191102976 * 972) y h0 (fun q a b => hwb q a (by omega))
    rw [← hs] at hbs
    refine wp_iload (pc' := 73) rfl rfl rfl ?_
    refine wp_iconst (a := 5) (pc' := 74) rfl rfl rfl ?_
    refine wp_icmp_ge (pc' := 77) (pt := 136) rfl rfl rfl (fun q_1 => ?_) (fun q_1 => ?_)
    · skip
      obtain rfl : y = 5 := by omega
      rw [hs]
      exact K
    · skip
      exfalso; omega
  | succ k ih =>
    intro y s h0 hyk hs
    have hln := hl.2.1
    have hwb : ∀ q : Int, 0 ≤ q → q < 5 → 0 ≤ w 51 q * sumI (fWorth (w 3 0) (w 4) (w 5) (w 6) (sBeside (w 3 0) (w 3 1) (w 3 3) q)) (w 3 2) ∧ w 51 q * sumI (fWorth (w 3 0) (w 4) (w 5) (w 6) (sBeside (w 3 0) (w 3 1) (w 3 3) q)) (w 3 2) ≤ 191102976 * 972 := fun q a b => by
      by_cases hz : 0 < w 51 q
      · have h1 := @worth_in (w 3 0) (w 3 1) (w 3 2) _ (w 4) (w 5) (w 6) hl.1 (beside_cel hl.1 hx (hval q a b hz)) (by omega) hln.2 (fun j c e => (hl.2.2 j c e).2.1) (fun j c e => (hl.2.2 j c e).2.2)
        exact mul_bd (hbz q a b).1 (hbz q a b).2 h1.1 h1.2
      · have h2 := hbz q a b
        rw [show w 51 q = 0 by omega, Int.zero_mul]
        decide
    have hbs := @sumI_bd (fun q => w 51 q * sumI (fWorth (w 3 0) (w 4) (w 5) (w 6) (sBeside (w 3 0) (w 3 1) (w 3 3) q)) (w 3 2)) 0 (191102976 * 972) y h0 (fun q a b => hwb q a (by omega))
    rw [← hs] at hbs
    refine wp_iload (pc' := 73) rfl rfl rfl ?_
    refine wp_iconst (a := 5) (pc' := 74) rfl rfl rfl ?_
    refine wp_icmp_ge (pc' := 77) (pt := 136) rfl rfl rfl (fun q_1 => ?_) (fun q_1 => ?_)
    · skip
      exfalso; omega
    · skip
      refine wp_aload_n (pc' := 78) rfl rfl rfl (by decide) ?_
      refine wp_getR (r' := 50) (ci := 9) (k0 := 11) (pc' := 81) rfl rfl (by decide) (by first | assumption | rfl) (hT.get 11 rfl) ?_
      refine wp_getR (r' := 51) (ci := 1) (k0 := 2) (pc' := 84) rfl rfl (by decide) (by first | assumption | rfl) (hT.get 64 rfl) ?_
      refine wp_iload (pc' := 86) rfl rfl rfl ?_
      refine wp_laload (pc' := 87) rfl rfl (by first | assumption | rfl) (by omega) ?_
      refine wp_lconst (a := 0) (pc' := 88) rfl rfl rfl ?_
      refine wp_lcmp (pc' := 89) rfl rfl rfl ?_
      have hlc := lCmp_gt (w 51 y) 0
      refine wp_if_le (pc' := 92) (pt := 130) rfl rfl rfl (fun q_2 => ?_) (fun q_2 => ?_)
      · skip
        refine wp_iinc (pc' := 133) rfl rfl rfl (inc_id (by omega) (by omega)) rfl ?_
        dsimp only [lset, lset2, List.set, List.getElem?_cons_zero, List.getElem?_cons_succ]
        refine wp_goto (pc' := 71) rfl rfl ?_
        exact ih (y + 1) _ (by omega) (by omega) (by rw [sumI_s _ h0, ← hs, show w 51 y = 0 by have := hbz y h0 (by omega); omega, Int.zero_mul, Int.add_zero])
      · skip
        have hvy := hval y h0 (by omega) (by omega)
        have hwy := hwb y h0 (by omega)
        refine wp_lload_n (pc' := 93) rfl rfl rfl ?_
        refine wp_aload_n (pc' := 94) rfl rfl rfl (by decide) ?_
        refine wp_getR (r' := 50) (ci := 9) (k0 := 11) (pc' := 97) rfl rfl (by decide) (by first | assumption | rfl) (hT.get 11 rfl) ?_
        refine wp_getR (r' := 51) (ci := 1) (k0 := 2) (pc' := 100) rfl rfl (by decide) (by first | assumption | rfl) (hT.get 64 rfl) ?_
        refine wp_iload (pc' := 102) rfl rfl rfl ?_
        refine wp_laload (pc' := 103) rfl rfl (by first | assumption | rfl) (by omega) ?_
        refine wp_aload_n (pc' := 104) rfl rfl rfl (by decide) ?_
        refine wp_getR (r' := 3) (ci := 9) (k0 := 2) (pc' := 107) rfl rfl (by decide) (by first | assumption | rfl) (hT.get 2 rfl) ?_
        refine wp_aload_n (pc' := 108) rfl rfl rfl (by decide) ?_
        refine wp_getR (r' := 3) (ci := 9) (k0 := 2) (pc' := 111) rfl rfl (by decide) (by first | assumption | rfl) (hT.get 2 rfl) ?_
        refine wp_aload_n (pc' := 112) rfl rfl rfl (by decide) ?_
        refine wp_getR (r' := 3) (ci := 9) (k0 := 2) (pc' := 115) rfl rfl (by decide) (by first | assumption | rfl) (hT.get 2 rfl) ?_
        refine wp_getI (ci := 3) (k0 := 3) (pc' := 118) rfl rfl (by decide) (by first | assumption | rfl) ?_
        refine wp_iload (pc' := 120) rfl rfl rfl ?_
        refine wp_call (pc' := 123) rfl rfl rfl rfl rfl ⟨Nat.le_of_ble_eq_true rfl, Nat.le_of_ble_eq_true rfl, Nat.le_of_ble_eq_true rfl, Nat.le_of_ble_eq_true rfl, Nat.le_of_ble_eq_true rfl⟩ rfl (c_Land_beside hl.1 hx) ?_
        intro v1 w9 hq1
        rw [hq1.1, hq1.2]
        clear hq1 v1 w9
        dsimp only [Option.toList, List.cons_append, List.nil_append, List.append_nil]
        refine wp_call (pc' := 126) rfl rfl rfl rfl rfl ⟨Nat.le_of_ble_eq_true rfl, Nat.le_of_ble_eq_true rfl, Nat.le_of_ble_eq_true rfl, Nat.le_of_ble_eq_true rfl, Nat.le_of_ble_eq_true rfl⟩ rfl (c_Land_worth hl hT (beside_cel hl.1 hx hvy)) ?_
        intro v1 w9 hq1
        rw [hq1.1, hq1.2]
        clear hq1 v1 w9
        dsimp only [Option.toList, List.cons_append, List.nil_append, List.append_nil]
        refine wp_i2l (pc' := 127) rfl rfl ?_
        refine wp_lmul (pc' := 128) rfl rfl (by first | exact w64_id (by omega) (by omega) | rfl) ?_
        refine wp_ladd (pc' := 129) rfl rfl (by first | exact w64_id (by omega) (by omega) | rfl) ?_
        refine wp_lstore_n (pc' := 130) rfl rfl (Nat.le_of_ble_eq_true rfl) rfl ?_
        dsimp only [lset, lset2, List.set, List.getElem?_cons_zero, List.getElem?_cons_succ]
        refine wp_iinc (pc' := 133) rfl rfl rfl (inc_id (by omega) (by omega)) rfl ?_
        dsimp only [lset, lset2, List.set, List.getElem?_cons_zero, List.getElem?_cons_succ]
        refine wp_goto (pc' := 71) rfl rfl ?_
        exact ih (y + 1) _ (by omega) (by omega) (by rw [sumI_s _ h0, ← hs])
set_option maxRecDepth 20000 in
set_option maxHeartbeats 4000000 in
theorem p_mid {w : Hp} {d : Nat} {p : Int} (hI : Inv w) : WP SH (d + 9) 114 0 [some (vR 0), some (vI p), none, none, none] [] w (fun v0 w1 => ∃ a, v0 = some (vI a) ∧ w1 (-2) = w (-2) ∧ WP SH (d + 9) 222 0 [some (vR 100), some (vI p), none] [] w1 (fun v2 w2 => v2 = some (vI a) ∧ w2 (-2) = w1 (-2) ∧ Inv w2)) := by
  obtain ⟨hT, hRO, hIF, hITo, hIR, hIT, hIL, hIK⟩ := id hI
  obtain ⟨hn25, b11, b12, b10, hn6, hem, m0, m1, m2, m23, hyr, hdd, hpre⟩ := hI.base
  have hmm : w 100 11 * w 100 12 = w 3 0 * w 3 1 := by rw [b11, b12]
  refine wp_iload_n (pc' := 1) rfl rfl rfl ?_
  refine wp_if_lt (pc' := 4) (pt := 10) rfl rfl rfl (fun q_1 => ?_) (fun q_1 => ?_)
  · skip
    refine wp_iconst (a := -1) (pc' := 11) rfl rfl rfl ?_
    refine wp_ret rfl rfl rfl ?_
    refine ⟨_, rfl, ?_, ?_⟩
    · rfl
    refine wp_aload_n (pc' := 1) rfl rfl rfl (by decide) ?_
    refine wp_iload_n (pc' := 2) rfl rfl rfl ?_
    refine wp_iconst (a := 0) (pc' := 3) rfl rfl rfl ?_
    refine wp_bipush (a := 12) (pc' := 5) rfl rfl rfl ?_
    refine wp_call (pc' := 8) rfl rfl rfl rfl rfl ⟨Nat.le_of_ble_eq_true rfl, Nat.le_of_ble_eq_true rfl, Nat.le_of_ble_eq_true rfl, Nat.le_of_ble_eq_true rfl, Nat.le_of_ble_eq_true rfl⟩ rfl (c_Mod_in) ?_
    rintro v1 w9 ⟨hw9, ⟨hv1, hin⟩ | ⟨hv1, hin⟩⟩
    · skip
      rw [hv1, hw9]
      clear hv1 hw9 v1 w9
      dsimp only [Option.toList, List.cons_append, List.nil_append, List.append_nil]
      refine wp_call (pc' := 11) rfl rfl rfl rfl rfl ⟨Nat.le_of_ble_eq_true rfl, Nat.le_of_ble_eq_true rfl, Nat.le_of_ble_eq_true rfl, Nat.le_of_ble_eq_true rfl, Nat.le_of_ble_eq_true rfl⟩ rfl (c_Mod_need (by decide)) ?_
      rintro v1 w9 ⟨hw9, ⟨hv1, hg1⟩ | ⟨hv1, hg1, hg2⟩ | ⟨hv1, hg1, hg2⟩⟩
      · skip
        rw [hv1, hw9]
        clear hv1 hw9 v1 w9
        dsimp only [Option.toList, List.cons_append, List.nil_append, List.append_nil]
        refine wp_istore_n (pc' := 12) rfl rfl (Nat.le_of_ble_eq_true rfl) rfl ?_
        dsimp only [lset, lset2, List.set, List.getElem?_cons_zero, List.getElem?_cons_succ]
        refine wp_iload_n (pc' := 13) rfl rfl rfl ?_
        refine wp_if_ge (pc' := 16) (pt := 18) rfl rfl rfl (fun q_52 => absurd q_52 (by decide)) (fun q_52 => ?_)
        refine wp_iload_n (pc' := 17) rfl rfl rfl ?_
        refine wp_ret rfl rfl rfl ?_
        first
        | (exfalso; omega)
        | exact ⟨rfl, rfl, hI⟩
      · skip
        rw [hv1, hw9]
        clear hv1 hw9 v1 w9
        dsimp only [Option.toList, List.cons_append, List.nil_append, List.append_nil]
        refine wp_istore_n (pc' := 12) rfl rfl (Nat.le_of_ble_eq_true rfl) rfl ?_
        dsimp only [lset, lset2, List.set, List.getElem?_cons_zero, List.getElem?_cons_succ]
        refine wp_iload_n (pc' := 13) rfl rfl rfl ?_
        refine wp_if_ge (pc' := 16) (pt := 18) rfl rfl rfl (fun q_53 => absurd q_53 (by decide)) (fun q_53 => ?_)
        refine wp_iload_n (pc' := 17) rfl rfl rfl ?_
        refine wp_ret rfl rfl rfl ?_
        first
        | (exfalso; omega)
        | exact ⟨rfl, rfl, hI⟩
      · skip
        rw [hv1, hw9]
        clear hv1 hw9 v1 w9
        dsimp only [Option.toList, List.cons_append, List.nil_append, List.append_nil]
        refine wp_istore_n (pc' := 12) rfl rfl (Nat.le_of_ble_eq_true rfl) rfl ?_
        dsimp only [lset, lset2, List.set, List.getElem?_cons_zero, List.getElem?_cons_succ]
        refine wp_iload_n (pc' := 13) rfl rfl rfl ?_
        refine wp_if_ge (pc' := 16) (pt := 18) rfl rfl rfl (fun q_54 => ?_) (fun q_54 => absurd (by decide) q_54)
        exfalso; omega
    · skip
      rw [hv1, hw9]
      clear hv1 hw9 v1 w9
      dsimp only [Option.toList, List.cons_append, List.nil_append, List.append_nil]
      refine wp_call (pc' := 11) rfl rfl rfl rfl rfl ⟨Nat.le_of_ble_eq_true rfl, Nat.le_of_ble_eq_true rfl, Nat.le_of_ble_eq_true rfl, Nat.le_of_ble_eq_true rfl, Nat.le_of_ble_eq_true rfl⟩ rfl (c_Mod_need (by decide)) ?_
      rintro v1 w9 ⟨hw9, ⟨hv1, hg1⟩ | ⟨hv1, hg1, hg2⟩ | ⟨hv1, hg1, hg2⟩⟩
      · skip
        rw [hv1, hw9]
        clear hv1 hw9 v1 w9
        dsimp only [Option.toList, List.cons_append, List.nil_append, List.append_nil]
        refine wp_istore_n (pc' := 12) rfl rfl (Nat.le_of_ble_eq_true rfl) rfl ?_
        dsimp only [lset, lset2, List.set, List.getElem?_cons_zero, List.getElem?_cons_succ]
        refine wp_iload_n (pc' := 13) rfl rfl rfl ?_
        refine wp_if_ge (pc' := 16) (pt := 18) rfl rfl rfl (fun q_55 => absurd q_55 (by decide)) (fun q_55 => ?_)
        refine wp_iload_n (pc' := 17) rfl rfl rfl ?_
        refine wp_ret rfl rfl rfl ?_
        first
        | (exfalso; omega)
        | exact ⟨rfl, rfl, hI⟩
      · skip
        rw [hv1, hw9]
        clear hv1 hw9 v1 w9
        dsimp only [Option.toList, List.cons_append, List.nil_append, List.append_nil]
        refine wp_istore_n (pc' := 12) rfl rfl (Nat.le_of_ble_eq_true rfl) rfl ?_
        dsimp only [lset, lset2, List.set, List.getElem?_cons_zero, List.getElem?_cons_succ]
        refine wp_iload_n (pc' := 13) rfl rfl rfl ?_
        refine wp_if_ge (pc' := 16) (pt := 18) rfl rfl rfl (fun q_56 => absurd q_56 (by decide)) (fun q_56 => ?_)
        refine wp_iload_n (pc' := 17) rfl rfl rfl ?_
        refine wp_ret rfl rfl rfl ?_
        first
        | (exfalso; omega)
        | exact ⟨rfl, rfl, hI⟩
      · skip
        rw [hv1, hw9]
        clear hv1 hw9 v1 w9
        dsimp only [Option.toList, List.cons_append, List.nil_append, List.append_nil]
        refine wp_istore_n (pc' := 12) rfl rfl (Nat.le_of_ble_eq_true rfl) rfl ?_
        dsimp only [lset, lset2, List.set, List.getElem?_cons_zero, List.getElem?_cons_succ]
        refine wp_iload_n (pc' := 13) rfl rfl rfl ?_
        refine wp_if_ge (pc' := 16) (pt := 18) rfl rfl rfl (fun q_57 => ?_) (fun q_57 => absurd (by decide) q_57)
        exfalso; omega
  · skip
    refine wp_iload_n (pc' := 5) rfl rfl rfl ?_
    refine wp_bipush (a := 12) (pc' := 7) rfl rfl rfl ?_
    refine wp_icmp_le (pc' := 10) (pt := 12) rfl rfl rfl (fun q_58 => ?_) (fun q_58 => ?_)
    · skip
      refine wp_aload_n (pc' := 13) rfl rfl rfl (by decide) ?_
      refine wp_getR (r' := 3) (ci := 9) (k0 := 2) (pc' := 16) rfl rfl (by decide) (by first | assumption | rfl) (hT.get 2 rfl) ?_
      refine wp_call (pc' := 19) rfl rfl rfl rfl rfl ⟨Nat.le_of_ble_eq_true rfl, Nat.le_of_ble_eq_true rfl, Nat.le_of_ble_eq_true rfl, Nat.le_of_ble_eq_true rfl, Nat.le_of_ble_eq_true rfl⟩ rfl (c_Land_isEmpty_3) ?_
      rintro v1 w9 ⟨hw9, ⟨hv1, he⟩ | ⟨hv1, he⟩⟩
      · skip
        rw [hv1, hw9]
        clear hv1 hw9 v1 w9
        dsimp only [Option.toList, List.cons_append, List.nil_append, List.append_nil]
        refine wp_if_eq (pc' := 22) (pt := 25) rfl rfl rfl (fun q_59 => absurd q_59 (by decide)) (fun q_59 => ?_)
        refine wp_bipush (a := -4) (pc' := 24) rfl rfl rfl ?_
        refine wp_ret rfl rfl rfl ?_
        refine ⟨_, rfl, ?_, ?_⟩
        · rfl
        refine wp_aload_n (pc' := 1) rfl rfl rfl (by decide) ?_
        refine wp_iload_n (pc' := 2) rfl rfl rfl ?_
        refine wp_iconst (a := 0) (pc' := 3) rfl rfl rfl ?_
        refine wp_bipush (a := 12) (pc' := 5) rfl rfl rfl ?_
        refine wp_call (pc' := 8) rfl rfl rfl rfl rfl ⟨Nat.le_of_ble_eq_true rfl, Nat.le_of_ble_eq_true rfl, Nat.le_of_ble_eq_true rfl, Nat.le_of_ble_eq_true rfl, Nat.le_of_ble_eq_true rfl⟩ rfl (c_Mod_in) ?_
        rintro v1 w9 ⟨hw9, ⟨hv1, hin⟩ | ⟨hv1, hin⟩⟩
        · skip
          rw [hv1, hw9]
          clear hv1 hw9 v1 w9
          dsimp only [Option.toList, List.cons_append, List.nil_append, List.append_nil]
          refine wp_call (pc' := 11) rfl rfl rfl rfl rfl ⟨Nat.le_of_ble_eq_true rfl, Nat.le_of_ble_eq_true rfl, Nat.le_of_ble_eq_true rfl, Nat.le_of_ble_eq_true rfl, Nat.le_of_ble_eq_true rfl⟩ rfl (c_Mod_need (by decide)) ?_
          rintro v1 w9 ⟨hw9, ⟨hv1, hg1⟩ | ⟨hv1, hg1, hg2⟩ | ⟨hv1, hg1, hg2⟩⟩
          · skip
            rw [hv1, hw9]
            clear hv1 hw9 v1 w9
            dsimp only [Option.toList, List.cons_append, List.nil_append, List.append_nil]
            refine wp_istore_n (pc' := 12) rfl rfl (Nat.le_of_ble_eq_true rfl) rfl ?_
            dsimp only [lset, lset2, List.set, List.getElem?_cons_zero, List.getElem?_cons_succ]
            refine wp_iload_n (pc' := 13) rfl rfl rfl ?_
            refine wp_if_ge (pc' := 16) (pt := 18) rfl rfl rfl (fun q_110 => absurd q_110 (by decide)) (fun q_110 => ?_)
            refine wp_iload_n (pc' := 17) rfl rfl rfl ?_
            refine wp_ret rfl rfl rfl ?_
            first
            | (exfalso; omega)
            | exact ⟨rfl, rfl, hI⟩
          · skip
            rw [hv1, hw9]
            clear hv1 hw9 v1 w9
            dsimp only [Option.toList, List.cons_append, List.nil_append, List.append_nil]
            refine wp_istore_n (pc' := 12) rfl rfl (Nat.le_of_ble_eq_true rfl) rfl ?_
            dsimp only [lset, lset2, List.set, List.getElem?_cons_zero, List.getElem?_cons_succ]
            refine wp_iload_n (pc' := 13) rfl rfl rfl ?_
            refine wp_if_ge (pc' := 16) (pt := 18) rfl rfl rfl (fun q_111 => absurd q_111 (by decide)) (fun q_111 => ?_)
            refine wp_iload_n (pc' := 17) rfl rfl rfl ?_
            refine wp_ret rfl rfl rfl ?_
            first
            | (exfalso; omega)
            | exact ⟨rfl, rfl, hI⟩
          · skip
            rw [hv1, hw9]
            clear hv1 hw9 v1 w9
            dsimp only [Option.toList, List.cons_append, List.nil_append, List.append_nil]
            refine wp_istore_n (pc' := 12) rfl rfl (Nat.le_of_ble_eq_true rfl) rfl ?_
            dsimp only [lset, lset2, List.set, List.getElem?_cons_zero, List.getElem?_cons_succ]
            refine wp_iload_n (pc' := 13) rfl rfl rfl ?_
            refine wp_if_ge (pc' := 16) (pt := 18) rfl rfl rfl (fun q_112 => ?_) (fun q_112 => absurd (by decide) q_112)
            exfalso; omega
        · skip
          rw [hv1, hw9]
          clear hv1 hw9 v1 w9
          dsimp only [Option.toList, List.cons_append, List.nil_append, List.append_nil]
          refine wp_call (pc' := 11) rfl rfl rfl rfl rfl ⟨Nat.le_of_ble_eq_true rfl, Nat.le_of_ble_eq_true rfl, Nat.le_of_ble_eq_true rfl, Nat.le_of_ble_eq_true rfl, Nat.le_of_ble_eq_true rfl⟩ rfl (c_Mod_need (by decide)) ?_
          rintro v1 w9 ⟨hw9, ⟨hv1, hg1⟩ | ⟨hv1, hg1, hg2⟩ | ⟨hv1, hg1, hg2⟩⟩
          · skip
            rw [hv1, hw9]
            clear hv1 hw9 v1 w9
            dsimp only [Option.toList, List.cons_append, List.nil_append, List.append_nil]
            refine wp_istore_n (pc' := 12) rfl rfl (Nat.le_of_ble_eq_true rfl) rfl ?_
            dsimp only [lset, lset2, List.set, List.getElem?_cons_zero, List.getElem?_cons_succ]
            refine wp_iload_n (pc' := 13) rfl rfl rfl ?_
            refine wp_if_ge (pc' := 16) (pt := 18) rfl rfl rfl (fun q_113 => absurd q_113 (by decide)) (fun q_113 => ?_)
            refine wp_iload_n (pc' := 17) rfl rfl rfl ?_
            refine wp_ret rfl rfl rfl ?_
            first
            | (exfalso; omega)
            | exact ⟨rfl, rfl, hI⟩
          · skip
            rw [hv1, hw9]
            clear hv1 hw9 v1 w9
            dsimp only [Option.toList, List.cons_append, List.nil_append, List.append_nil]
            refine wp_istore_n (pc' := 12) rfl rfl (Nat.le_of_ble_eq_true rfl) rfl ?_
            dsimp only [lset, lset2, List.set, List.getElem?_cons_zero, List.getElem?_cons_succ]
            refine wp_iload_n (pc' := 13) rfl rfl rfl ?_
            refine wp_if_ge (pc' := 16) (pt := 18) rfl rfl rfl (fun q_114 => absurd q_114 (by decide)) (fun q_114 => ?_)
            refine wp_iload_n (pc' := 17) rfl rfl rfl ?_
            refine wp_ret rfl rfl rfl ?_
            first
            | (exfalso; omega)
            | exact ⟨rfl, rfl, hI⟩
          · skip
            rw [hv1, hw9]
            clear hv1 hw9 v1 w9
            dsimp only [Option.toList, List.cons_append, List.nil_append, List.append_nil]
            refine wp_istore_n (pc' := 12) rfl rfl (Nat.le_of_ble_eq_true rfl) rfl ?_
            dsimp only [lset, lset2, List.set, List.getElem?_cons_zero, List.getElem?_cons_succ]
            refine wp_iload_n (pc' := 13) rfl rfl rfl ?_
            refine wp_if_ge (pc' := 16) (pt := 18) rfl rfl rfl (fun q_115 => ?_) (fun q_115 => absurd (by decide) q_115)
            exfalso; omega
      · skip
        rw [hv1, hw9]
        clear hv1 hw9 v1 w9
        have hpr := hpre (by omega)
        have hn0 : w 3 2 ≠ 0 := by omega
        dsimp only [Option.toList, List.cons_append, List.nil_append, List.append_nil]
        refine wp_if_eq (pc' := 22) (pt := 25) rfl rfl rfl (fun q_116 => ?_) (fun q_116 => absurd (by decide) q_116)
        refine wp_aload_n (pc' := 26) rfl rfl rfl (by decide) ?_
        refine wp_getR (r' := 23) (ci := 9) (k0 := 6) (pc' := 29) rfl rfl (by decide) (by first | assumption | rfl) (hT.get 6 rfl) ?_
        refine wp_aload_n (pc' := 30) rfl rfl rfl (by decide) ?_
        refine wp_getR (r' := 3) (ci := 9) (k0 := 2) (pc' := 33) rfl rfl (by decide) (by first | assumption | rfl) (hT.get 2 rfl) ?_
        refine wp_aload_n (pc' := 34) rfl rfl rfl (by decide) ?_
        refine wp_getR (r' := 3) (ci := 9) (k0 := 2) (pc' := 37) rfl rfl (by decide) (by first | assumption | rfl) (hT.get 2 rfl) ?_
        refine wp_getI (ci := 3) (k0 := 3) (pc' := 40) rfl rfl (by decide) (by first | assumption | rfl) ?_
        refine wp_aload_n (pc' := 41) rfl rfl rfl (by decide) ?_
        refine wp_getR (r' := 3) (ci := 9) (k0 := 2) (pc' := 44) rfl rfl (by decide) (by first | assumption | rfl) (hT.get 2 rfl) ?_
        refine wp_getI (ci := 3) (k0 := 4) (pc' := 47) rfl rfl (by decide) (by first | assumption | rfl) ?_
        refine wp_call (pc' := 50) rfl rfl rfl rfl rfl ⟨Nat.le_of_ble_eq_true rfl, Nat.le_of_ble_eq_true rfl, Nat.le_of_ble_eq_true rfl, Nat.le_of_ble_eq_true rfl, Nat.le_of_ble_eq_true rfl⟩ rfl (c_Ballot_hold hT hRO hpr.1 hpr.2.2.1) ?_
        rintro v1 w1 ⟨hv1, hS1, hc1, hz1⟩
        rw [hv1]
        clear hv1 v1
        have hQ1 : SameF w w1 LQ FQ := qry (hS1.F []) (by decide) (by decide)
        obtain ⟨hT, hr1, hl1, hm1, e31, e41, e51, e61, g111, g121, g101, g71, g81, g91, hx1⟩ := vw hI hn0 hQ1
        dsimp only [Option.toList, List.cons_append, List.nil_append, List.append_nil]
        refine wp_aload_n (pc' := 51) rfl rfl rfl (by decide) ?_
        refine wp_getR (r' := 50) (ci := 9) (k0 := 11) (pc' := 54) rfl rfl (by decide) (by first | assumption | rfl) (hT.get 11 rfl) ?_
        refine wp_aload_n (pc' := 55) rfl rfl rfl (by decide) ?_
        refine wp_getR (r' := 3) (ci := 9) (k0 := 2) (pc' := 58) rfl rfl (by decide) (by first | assumption | rfl) (hT.get 2 rfl) ?_
        refine wp_aload_n (pc' := 59) rfl rfl rfl (by decide) ?_
        refine wp_getR (r' := 23) (ci := 9) (k0 := 6) (pc' := 62) rfl rfl (by decide) (by first | assumption | rfl) (hT.get 6 rfl) ?_
        refine wp_iload_n (pc' := 63) rfl rfl rfl ?_
        refine wp_call (pc' := 66) rfl rfl rfl rfl rfl ⟨Nat.le_of_ble_eq_true rfl, Nat.le_of_ble_eq_true rfl, Nat.le_of_ble_eq_true rfl, Nat.le_of_ble_eq_true rfl, Nat.le_of_ble_eq_true rfl⟩ rfl (c_Chance_weigh hT hl1.2.1 (fun j a b => (hl1.2.2 j a b).2.2) (by omega)) ?_
        rintro v1 w2 ⟨hv1, hS2, hz2, h503⟩
        rw [hv1]
        clear hv1 v1
        rw [e31, e61] at hz2
        rw [e31] at h503
        have hn6b := hpr.1.2.1
        have hgw : ∀ j : Int, 0 ≤ j → j < w 3 2 → 1 ≤ w 6 j ∧ w 6 j ≤ 9 := fun j a b => (hpr.1.2.2 j a b).2.2
        have hz : ∀ j : Int, 0 ≤ j → j < 5 → w2 51 j = sumI (fun s => if wnA (w 3 2) (fVote (w 3 0) (w 3 1) (w 4) (w 5) (w 3 3) (w 3 4)) (w 6) s = j then prodN (fA (fVote (w 3 0) (w 3 1) (w 4) (w 5) (w 3 3) (w 3 4)) p s) (w 3 2).toNat else 0) (iShl 1 (w 3 2)) := fun j a b => by
          rw [hz2 j a b]
          exact sumI_congr (fun s _ _ => by (try dsimp only); rw [chA (p := p) (s := s) hc1, chWA (s := s) (G' := w 6) (fun q c e => ⟨hc1 q c e, rfl⟩)])
        have hall : w2 50 3 = prodN (fWh (fVote (w 3 0) (w 3 1) (w 4) (w 5) (w 3 3) (w 3 4))) (w 3 2).toNat := by
          rw [h503, sumI_congr (g := fun s => prodN (fA (fVote (w 3 0) (w 3 1) (w 4) (w 5) (w 3 3) (w 3 4)) p s) (w 3 2).toNat) (fun s _ _ => chA (p := p) (s := s) hc1)]
          exact sum_all hn6b
        have hpos := fWh_pos (fVote (w 3 0) (w 3 1) (w 4) (w 5) (w 3 3) (w 3 4)) (w 3 2).toNat (by omega)
        rw [← hall] at hpos
        have hsh := shl1 hn6b
        have hbz : ∀ j : Int, 0 ≤ j → j < 5 → 0 ≤ w2 51 j ∧ w2 51 j ≤ 191102976 := fun j a b => by
          rw [hz j a b]
          have := @sumI_bd (fun s => if wnA (w 3 2) (fVote (w 3 0) (w 3 1) (w 4) (w 5) (w 3 3) (w 3 4)) (w 6) s = j then prodN (fA (fVote (w 3 0) (w 3 1) (w 4) (w 5) (w 3 3) (w 3 4)) p s) (w 3 2).toNat else 0) 0 2985984 (iShl 1 (w 3 2)) (by omega) (fun s _ _ => by
            have := @wtA_in (fVote (w 3 0) (w 3 1) (w 4) (w 5) (w 3 3) (w 3 4)) p s (w 3 2).toNat (by omega) (by omega)
            try dsimp only
            split <;> omega)
          omega
        have hQ2 : SameF w w2 LQ FQ := hQ1.tr (qry hS2 (by decide) (by decide))
        obtain ⟨hT, hr2, hl2, hm2, e32, e42, e52, e62, g112, g122, g102, g72, g82, g92, hx2⟩ := vw hI hn0 hQ2
        dsimp only [Option.toList, List.cons_append, List.nil_append, List.append_nil]
        refine wp_lconst (a := 0) (pc' := 67) rfl rfl rfl ?_
        refine wp_lstore_n (pc' := 68) rfl rfl (Nat.le_of_ble_eq_true rfl) rfl ?_
        dsimp only [lset, lset2, List.set, List.getElem?_cons_zero, List.getElem?_cons_succ]
        refine wp_iconst (a := 0) (pc' := 69) rfl rfl rfl ?_
        refine wp_istore (pc' := 71) rfl rfl (Nat.le_of_ble_eq_true rfl) rfl ?_
        dsimp only [lset, lset2, List.set, List.getElem?_cons_zero, List.getElem?_cons_succ]
        have hval : ∀ q : Int, 0 ≤ q → q < 5 → 0 < w2 51 q → sBeside (w2 3 0) (w2 3 1) (w2 3 3) q ≠ -1 := fun q a b hq => by
          rw [hz q a b] at hq
          have hnn : ∀ s : Int, 0 ≤ s → s < ((iShl 1 (w 3 2)).toNat : Int) → 0 ≤ (fun s => if wnA (w 3 2) (fVote (w 3 0) (w 3 1) (w 4) (w 5) (w 3 3) (w 3 4)) (w 6) s = q then prodN (fA (fVote (w 3 0) (w 3 1) (w 4) (w 5) (w 3 3) (w 3 4)) p s) (w 3 2).toNat else 0) s := fun s _ _ => by
            have := @wtA_in (fVote (w 3 0) (w 3 1) (w 4) (w 5) (w 3 3) (w 3 4)) p s (w 3 2).toNat (by omega) (by omega)
            dsimp only
            split <;> omega
          obtain ⟨s, s0, s1, hs⟩ := sumN_pos hnn hq
          try dsimp only at hs
          split at hs
          · rename_i hw
            rw [e32, ← hw]
            refine win_ok hpr.2.2.1 (fun j a b => ?_) hgw
            unfold vOf fVote
            have h7 := @sVote_in (w 3 0) (w 3 1) (w 4 j) (w 5 j) (w 3 3) (w 3 4) hpr.1.1 hpr.2.2.1
            split
            · rcases h7 with h7 | h7
              · exact Or.inl h7
              · exact Or.inr h7.2.2
            · exact Or.inl rfl
          · omega
        have hsum : (sumI (fun q => w2 51 q * sumI (fWorth (w 3 0) (w 4) (w 5) (w 6) (sBeside (w 3 0) (w 3 1) (w 3 3) q)) (w 3 2)) 5) = sumI (fun s => prodN (fA (fVote (w 3 0) (w 3 1) (w 4) (w 5) (w 3 3) (w 3 4)) p s) (w 3 2).toNat * sumI (fWorth (w 3 0) (w 4) (w 5) (w 6) (sBeside (w 3 0) (w 3 1) (w 3 3) (wnA (w 3 2) (fVote (w 3 0) (w 3 1) (w 4) (w 5) (w 3 3) (w 3 4)) (w 6) s))) (w 3 2)) (iShl 1 (w 3 2)) := by
          have h5 := ways5 (fun s => prodN (fA (fVote (w 3 0) (w 3 1) (w 4) (w 5) (w 3 3) (w 3 4)) p s) (w 3 2).toNat) (fun s => wnA (w 3 2) (fVote (w 3 0) (w 3 1) (w 4) (w 5) (w 3 3) (w 3 4)) (w 6) s) (fun q => sumI (fWorth (w 3 0) (w 4) (w 5) (w 6) (sBeside (w 3 0) (w 3 1) (w 3 3) q)) (w 3 2)) (fun s => sWin_in _) (iShl 1 (w 3 2)).toNat
          show sumN _ 5 = sumN _ _
          rw [← h5]
          exact sumN_congr (fun q a b => by (try dsimp only); rw [hz q a (by omega)]; rfl)
        have hsb := @sumI_bd (fun s => prodN (fA (fVote (w 3 0) (w 3 1) (w 4) (w 5) (w 3 3) (w 3 4)) p s) (w 3 2).toNat * sumI (fWorth (w 3 0) (w 4) (w 5) (w 6) (sBeside (w 3 0) (w 3 1) (w 3 3) (wnA (w 3 2) (fVote (w 3 0) (w 3 1) (w 4) (w 5) (w 3 3) (w 3 4)) (w 6) s))) (w 3 2)) 0 2902376448 (iShl 1 (w 3 2)) (by omega) (fun s _ _ => by
          have h1 := @wtA_in (fVote (w 3 0) (w 3 1) (w 4) (w 5) (w 3 3) (w 3 4)) p s (w 3 2).toNat (by omega) (by omega)
          have h2 := @worth_in (w 3 0) (w 3 1) (w 3 2) (sBeside (w 3 0) (w 3 1) (w 3 3) (wnA (w 3 2) (fVote (w 3 0) (w 3 1) (w 4) (w 5) (w 3 3) (w 3 4)) (w 6) s)) (w 4) (w 5) (w 6) hpr.1.1 (beside_cel hpr.1.1 hpr.2.2.1 (win_ok hpr.2.2.1 (fun j a b => by
            unfold vOf fVote
            have h7 := @sVote_in (w 3 0) (w 3 1) (w 4 j) (w 5 j) (w 3 3) (w 3 4) hpr.1.1 hpr.2.2.1
            split
            · rcases h7 with h7 | h7
              · exact Or.inl h7
              · exact Or.inr h7.2.2
            · exact Or.inl rfl) hgw)) (by omega) hn6b.2 (fun j c e => (hpr.1.2.2 j c e).2.1) hgw
          have h3 := mul_bd h1.1 h1.2 h2.1 h2.2
          try dsimp only
          omega)
        rw [← hsum] at hsb
        refine l_mid hT hl2 (by rw [e32]; exact hpr.2.2.1) hval hbz ?_ 5 0 0 (by decide) (by decide) rfl
        rw [e32, e42, e52, e62]
        refine wp_aload_n (pc' := 137) rfl rfl rfl (by decide) ?_
        refine wp_getR (r' := 50) (ci := 9) (k0 := 11) (pc' := 140) rfl rfl (by decide) (by first | assumption | rfl) (hT.get 11 rfl) ?_
        refine wp_lload_n (pc' := 141) rfl rfl rfl ?_
        refine wp_call (pc' := 144) rfl rfl rfl rfl rfl ⟨Nat.le_of_ble_eq_true rfl, Nat.le_of_ble_eq_true rfl, Nat.le_of_ble_eq_true rfl, Nat.le_of_ble_eq_true rfl, Nat.le_of_ble_eq_true rfl⟩ rfl (c_Chance_tell (by omega) hpos) ?_
        rintro v1 w3 ⟨hv1, hw3⟩
        rw [hv1]
        clear hv1 v1
        dsimp only [Option.toList, List.cons_append, List.nil_append, List.append_nil]
        refine wp_iconst (a := 1) (pc' := 145) rfl rfl rfl ?_
        refine wp_ret rfl rfl rfl ?_
        refine ⟨_, rfl, ?_, ?_⟩
        · rw [hw3, up_ne (by decide), up_ne (by decide)]; exact hQ2.cell (-2) (by decide) (by decide)
        have hR3 : SameF w w3 LQ FR := by
          rw [hw3]
          exact ((hQ2.mono (fun r hr => hr) (fun q hq => Or.inl (by unfold FR; exact List.mem_append.2 (Or.inl hq)))).put (Or.inr (by decide))).put (Or.inr (by decide))
        obtain ⟨hT, hm3, g113, g123, g103, g73, g83, g93, hx3⟩ := vwF hI hn0 hR3
        have hcC : ∀ j : Int, 0 ≤ j → j < w 3 2 → fVote (w 3 0) (w 3 1) (w 107) (fun i => w 109 (3 + i)) (w 3 3) (w 3 4) j = (fVote (w 3 0) (w 3 1) (w 4) (w 5) (w 3 3) (w 3 4)) j := fun j a b => fVote_congr (K := w 107) (H := fun i => w 109 (3 + i)) (hpr.2.2.2.2 j a b).1 (hpr.2.2.2.2 j a b).2.1
        refine wp_aload_n (pc' := 1) rfl rfl rfl (by decide) ?_
        refine wp_iload_n (pc' := 2) rfl rfl rfl ?_
        refine wp_iconst (a := 0) (pc' := 3) rfl rfl rfl ?_
        refine wp_bipush (a := 12) (pc' := 5) rfl rfl rfl ?_
        refine wp_call (pc' := 8) rfl rfl rfl rfl rfl ⟨Nat.le_of_ble_eq_true rfl, Nat.le_of_ble_eq_true rfl, Nat.le_of_ble_eq_true rfl, Nat.le_of_ble_eq_true rfl, Nat.le_of_ble_eq_true rfl⟩ rfl (c_Mod_in) ?_
        rintro v1 w9 ⟨hw9, ⟨hv1, hin⟩ | ⟨hv1, hin⟩⟩
        · skip
          rw [hv1, hw9]
          clear hv1 hw9 v1 w9
          dsimp only [Option.toList, List.cons_append, List.nil_append, List.append_nil]
          refine wp_call (pc' := 11) rfl rfl rfl rfl rfl ⟨Nat.le_of_ble_eq_true rfl, Nat.le_of_ble_eq_true rfl, Nat.le_of_ble_eq_true rfl, Nat.le_of_ble_eq_true rfl, Nat.le_of_ble_eq_true rfl⟩ rfl (c_Mod_need (by decide)) ?_
          rintro v1 w9 ⟨hw9, ⟨hv1, hg1⟩ | ⟨hv1, hg1, hg2⟩ | ⟨hv1, hg1, hg2⟩⟩
          · skip
            rw [hv1, hw9]
            clear hv1 hw9 v1 w9
            dsimp only [Option.toList, List.cons_append, List.nil_append, List.append_nil]
            refine wp_istore_n (pc' := 12) rfl rfl (Nat.le_of_ble_eq_true rfl) rfl ?_
            dsimp only [lset, lset2, List.set, List.getElem?_cons_zero, List.getElem?_cons_succ]
            refine wp_iload_n (pc' := 13) rfl rfl rfl ?_
            refine wp_if_ge (pc' := 16) (pt := 18) rfl rfl rfl (fun q_187 => absurd q_187 (by decide)) (fun q_187 => ?_)
            refine wp_iload_n (pc' := 17) rfl rfl rfl ?_
            refine wp_ret rfl rfl rfl ?_
            first
            | (exfalso; omega)
            | exact ⟨rfl, rfl, hI⟩
          · skip
            rw [hv1, hw9]
            clear hv1 hw9 v1 w9
            dsimp only [Option.toList, List.cons_append, List.nil_append, List.append_nil]
            refine wp_istore_n (pc' := 12) rfl rfl (Nat.le_of_ble_eq_true rfl) rfl ?_
            dsimp only [lset, lset2, List.set, List.getElem?_cons_zero, List.getElem?_cons_succ]
            refine wp_iload_n (pc' := 13) rfl rfl rfl ?_
            refine wp_if_ge (pc' := 16) (pt := 18) rfl rfl rfl (fun q_188 => absurd q_188 (by decide)) (fun q_188 => ?_)
            refine wp_iload_n (pc' := 17) rfl rfl rfl ?_
            refine wp_ret rfl rfl rfl ?_
            first
            | (exfalso; omega)
            | exact ⟨rfl, rfl, hI⟩
          · skip
            rw [hv1, hw9]
            clear hv1 hw9 v1 w9
            dsimp only [Option.toList, List.cons_append, List.nil_append, List.append_nil]
            refine wp_istore_n (pc' := 12) rfl rfl (Nat.le_of_ble_eq_true rfl) rfl ?_
            dsimp only [lset, lset2, List.set, List.getElem?_cons_zero, List.getElem?_cons_succ]
            refine wp_iload_n (pc' := 13) rfl rfl rfl ?_
            refine wp_if_ge (pc' := 16) (pt := 18) rfl rfl rfl (fun q_189 => ?_) (fun q_189 => absurd (by decide) q_189)
            refine wp_aload_n (pc' := 19) rfl rfl rfl (by decide) ?_
            refine wp_iconst (a := 0) (pc' := 20) rfl rfl rfl ?_
            refine wp_iload_n (pc' := 21) rfl rfl rfl ?_
            refine wp_call (pc' := 24) rfl rfl rfl rfl rfl ⟨Nat.le_of_ble_eq_true rfl, Nat.le_of_ble_eq_true rfl, Nat.le_of_ble_eq_true rfl, Nat.le_of_ble_eq_true rfl, Nat.le_of_ble_eq_true rfl⟩ rfl (c_Mod_layParts hT hm3 hx3 (by omega)) ?_
            rintro v1 w4 ⟨hv1, hS4, h434, h435, h436⟩
            rw [hv1]
            clear hv1 v1
            have hR4 : SameF w w4 LQ FR := hR3.tr (hS4.mono (fun r hr => by simp at hr; rw [hr]; decide) (fun q hq => Or.inl (by simp at hq; rcases hq with rfl | rfl | rfl <;> decide)))
            rw [g103, g113, g123, g73, g93, m0, m1, chH (p := p) hcC, ← hall] at h434
            have hu6 : w4 100 36 = (sumI (fun q => w2 51 q * sumI (fWorth (w 3 0) (w 4) (w 5) (w 6) (sBeside (w 3 0) (w 3 1) (w 3 3) q)) (w 3 2)) 5) := by
              have hs := sum_sets (C := (fVote (w 3 0) (w 3 1) (w 4) (w 5) (w 3 3) (w 3 4))) (G := w 6) (p := p) hn6b (fun a g => a * sumI (fWorth (w 3 0) (w 4) (w 5) (w 6) (sBeside (w 3 0) (w 3 1) (w 3 3) g)) (w 3 2)) (fun a => Int.zero_mul _)
              rw [hsum, hs, h436, g103, g113, g123, g73, g83, g93, m0, m1, chV hcC]
              refine sumI_congr (fun x _ _ => ?_)
              unfold fQ
              rw [chWB (s := x) (fun j a b => ⟨hcC j a b, (hpr.2.2.2.2 j a b).2.2⟩)]
              split
              · congr 1
                exact worth_congr (fun j a b => hpr.2.2.2.2 j a b)
              · rfl
            dsimp only [Option.toList, List.cons_append, List.nil_append, List.append_nil]
            refine wp_aload_n (pc' := 25) rfl rfl rfl (by decide) ?_
            refine wp_aload_n (pc' := 26) rfl rfl rfl (by decide) ?_
            refine wp_getL (ci := 10) (k0 := 36) (pc' := 29) rfl rfl (by decide) (by first | assumption | rfl) ?_
            refine wp_aload_n (pc' := 30) rfl rfl rfl (by decide) ?_
            refine wp_getL (ci := 10) (k0 := 34) (pc' := 33) rfl rfl (by decide) (by first | assumption | rfl) ?_
            refine wp_call (pc' := 36) rfl rfl rfl rfl rfl ⟨Nat.le_of_ble_eq_true rfl, Nat.le_of_ble_eq_true rfl, Nat.le_of_ble_eq_true rfl, Nat.le_of_ble_eq_true rfl, Nat.le_of_ble_eq_true rfl⟩ rfl (c_Mod_fraction (by rw [hu6, h434]; omega)) ?_
            rintro v1 w5 ⟨hv1, hw5⟩
            rw [hv1]
            clear hv1 v1
            dsimp only [Option.toList, List.cons_append, List.nil_append, List.append_nil]
            refine wp_ret rfl rfl rfl ?_
            refine ⟨rfl, ?_, hI.frac (w' := w5) ?_ ?_ ?_ ?_⟩
            · rw [hw5, up_ne (by decide), up_ne (by decide)]
              exact hS4.cell (-2) (by decide) (by decide)
            · rw [hw5]
              exact (hR4.put (Or.inr (by decide))).put (Or.inr (by decide))
            · rw [hw5, up_ne (by decide), up_ne (by decide), up_at (by decide), up_at (by decide), hS4.cell 0 (by decide) (by decide), hS4 100 2 (by decide) (by decide), hw3, up_ne (show (0 : Int) ≠ 50 by decide), up_ne (show (0 : Int) ≠ 50 by decide), up_ne (show (100 : Int) ≠ 50 by decide), up_ne (show (100 : Int) ≠ 50 by decide), hS2.cell 0 (by decide) (by decide), hS2.cell 100 (by decide) (by decide), hS1 0 (by decide), hS1 100 (by decide)]
              exact hITo
            · rw [hw5, up_ne (by decide), up_ne (by decide), up_at (by decide), up_eq, hS4.cell 50 (by decide) (by decide), hw3, up_at (by decide), up_eq, hu6, h434]
            · rw [hw5, up_ne (by decide), up_ne (by decide), up_eq, hS4.cell 50 (by decide) (by decide), hw3, up_eq, hu6, h434]
        · skip
          rw [hv1, hw9]
          clear hv1 hw9 v1 w9
          dsimp only [Option.toList, List.cons_append, List.nil_append, List.append_nil]
          refine wp_call (pc' := 11) rfl rfl rfl rfl rfl ⟨Nat.le_of_ble_eq_true rfl, Nat.le_of_ble_eq_true rfl, Nat.le_of_ble_eq_true rfl, Nat.le_of_ble_eq_true rfl, Nat.le_of_ble_eq_true rfl⟩ rfl (c_Mod_need (by decide)) ?_
          rintro v1 w9 ⟨hw9, ⟨hv1, hg1⟩ | ⟨hv1, hg1, hg2⟩ | ⟨hv1, hg1, hg2⟩⟩
          · skip
            rw [hv1, hw9]
            clear hv1 hw9 v1 w9
            dsimp only [Option.toList, List.cons_append, List.nil_append, List.append_nil]
            refine wp_istore_n (pc' := 12) rfl rfl (Nat.le_of_ble_eq_true rfl) rfl ?_
            dsimp only [lset, lset2, List.set, List.getElem?_cons_zero, List.getElem?_cons_succ]
            refine wp_iload_n (pc' := 13) rfl rfl rfl ?_
            refine wp_if_ge (pc' := 16) (pt := 18) rfl rfl rfl (fun q_190 => absurd q_190 (by decide)) (fun q_190 => ?_)
            refine wp_iload_n (pc' := 17) rfl rfl rfl ?_
            refine wp_ret rfl rfl rfl ?_
            first
            | (exfalso; omega)
            | exact ⟨rfl, rfl, hI⟩
          · skip
            rw [hv1, hw9]
            clear hv1 hw9 v1 w9
            dsimp only [Option.toList, List.cons_append, List.nil_append, List.append_nil]
            refine wp_istore_n (pc' := 12) rfl rfl (Nat.le_of_ble_eq_true rfl) rfl ?_
            dsimp only [lset, lset2, List.set, List.getElem?_cons_zero, List.getElem?_cons_succ]
            refine wp_iload_n (pc' := 13) rfl rfl rfl ?_
            refine wp_if_ge (pc' := 16) (pt := 18) rfl rfl rfl (fun q_191 => absurd q_191 (by decide)) (fun q_191 => ?_)
            refine wp_iload_n (pc' := 17) rfl rfl rfl ?_
            refine wp_ret rfl rfl rfl ?_
            first
            | (exfalso; omega)
            | exact ⟨rfl, rfl, hI⟩
          · skip
            rw [hv1, hw9]
            clear hv1 hw9 v1 w9
            dsimp only [Option.toList, List.cons_append, List.nil_append, List.append_nil]
            refine wp_istore_n (pc' := 12) rfl rfl (Nat.le_of_ble_eq_true rfl) rfl ?_
            dsimp only [lset, lset2, List.set, List.getElem?_cons_zero, List.getElem?_cons_succ]
            refine wp_iload_n (pc' := 13) rfl rfl rfl ?_
            refine wp_if_ge (pc' := 16) (pt := 18) rfl rfl rfl (fun q_192 => ?_) (fun q_192 => absurd (by decide) q_192)
            refine wp_aload_n (pc' := 19) rfl rfl rfl (by decide) ?_
            refine wp_iconst (a := 0) (pc' := 20) rfl rfl rfl ?_
            refine wp_iload_n (pc' := 21) rfl rfl rfl ?_
            refine wp_call (pc' := 24) rfl rfl rfl rfl rfl ⟨Nat.le_of_ble_eq_true rfl, Nat.le_of_ble_eq_true rfl, Nat.le_of_ble_eq_true rfl, Nat.le_of_ble_eq_true rfl, Nat.le_of_ble_eq_true rfl⟩ rfl (c_Mod_layParts hT hm3 hx3 (by omega)) ?_
            rintro v1 w4 ⟨hv1, hS4, h434, h435, h436⟩
            rw [hv1]
            clear hv1 v1
            have hR4 : SameF w w4 LQ FR := hR3.tr (hS4.mono (fun r hr => by simp at hr; rw [hr]; decide) (fun q hq => Or.inl (by simp at hq; rcases hq with rfl | rfl | rfl <;> decide)))
            rw [g103, g113, g123, g73, g93, m0, m1, chH (p := p) hcC, ← hall] at h434
            have hu6 : w4 100 36 = (sumI (fun q => w2 51 q * sumI (fWorth (w 3 0) (w 4) (w 5) (w 6) (sBeside (w 3 0) (w 3 1) (w 3 3) q)) (w 3 2)) 5) := by
              have hs := sum_sets (C := (fVote (w 3 0) (w 3 1) (w 4) (w 5) (w 3 3) (w 3 4))) (G := w 6) (p := p) hn6b (fun a g => a * sumI (fWorth (w 3 0) (w 4) (w 5) (w 6) (sBeside (w 3 0) (w 3 1) (w 3 3) g)) (w 3 2)) (fun a => Int.zero_mul _)
              rw [hsum, hs, h436, g103, g113, g123, g73, g83, g93, m0, m1, chV hcC]
              refine sumI_congr (fun x _ _ => ?_)
              unfold fQ
              rw [chWB (s := x) (fun j a b => ⟨hcC j a b, (hpr.2.2.2.2 j a b).2.2⟩)]
              split
              · congr 1
                exact worth_congr (fun j a b => hpr.2.2.2.2 j a b)
              · rfl
            dsimp only [Option.toList, List.cons_append, List.nil_append, List.append_nil]
            refine wp_aload_n (pc' := 25) rfl rfl rfl (by decide) ?_
            refine wp_aload_n (pc' := 26) rfl rfl rfl (by decide) ?_
            refine wp_getL (ci := 10) (k0 := 36) (pc' := 29) rfl rfl (by decide) (by first | assumption | rfl) ?_
            refine wp_aload_n (pc' := 30) rfl rfl rfl (by decide) ?_
            refine wp_getL (ci := 10) (k0 := 34) (pc' := 33) rfl rfl (by decide) (by first | assumption | rfl) ?_
            refine wp_call (pc' := 36) rfl rfl rfl rfl rfl ⟨Nat.le_of_ble_eq_true rfl, Nat.le_of_ble_eq_true rfl, Nat.le_of_ble_eq_true rfl, Nat.le_of_ble_eq_true rfl, Nat.le_of_ble_eq_true rfl⟩ rfl (c_Mod_fraction (by rw [hu6, h434]; omega)) ?_
            rintro v1 w5 ⟨hv1, hw5⟩
            rw [hv1]
            clear hv1 v1
            dsimp only [Option.toList, List.cons_append, List.nil_append, List.append_nil]
            refine wp_ret rfl rfl rfl ?_
            refine ⟨rfl, ?_, hI.frac (w' := w5) ?_ ?_ ?_ ?_⟩
            · rw [hw5, up_ne (by decide), up_ne (by decide)]
              exact hS4.cell (-2) (by decide) (by decide)
            · rw [hw5]
              exact (hR4.put (Or.inr (by decide))).put (Or.inr (by decide))
            · rw [hw5, up_ne (by decide), up_ne (by decide), up_at (by decide), up_at (by decide), hS4.cell 0 (by decide) (by decide), hS4 100 2 (by decide) (by decide), hw3, up_ne (show (0 : Int) ≠ 50 by decide), up_ne (show (0 : Int) ≠ 50 by decide), up_ne (show (100 : Int) ≠ 50 by decide), up_ne (show (100 : Int) ≠ 50 by decide), hS2.cell 0 (by decide) (by decide), hS2.cell 100 (by decide) (by decide), hS1 0 (by decide), hS1 100 (by decide)]
              exact hITo
            · rw [hw5, up_ne (by decide), up_ne (by decide), up_at (by decide), up_eq, hS4.cell 50 (by decide) (by decide), hw3, up_at (by decide), up_eq, hu6, h434]
            · rw [hw5, up_ne (by decide), up_ne (by decide), up_eq, hS4.cell 50 (by decide) (by decide), hw3, up_eq, hu6, h434]
    · skip
      refine wp_iconst (a := -1) (pc' := 11) rfl rfl rfl ?_
      refine wp_ret rfl rfl rfl ?_
      refine ⟨_, rfl, ?_, ?_⟩
      · rfl
      refine wp_aload_n (pc' := 1) rfl rfl rfl (by decide) ?_
      refine wp_iload_n (pc' := 2) rfl rfl rfl ?_
      refine wp_iconst (a := 0) (pc' := 3) rfl rfl rfl ?_
      refine wp_bipush (a := 12) (pc' := 5) rfl rfl rfl ?_
      refine wp_call (pc' := 8) rfl rfl rfl rfl rfl ⟨Nat.le_of_ble_eq_true rfl, Nat.le_of_ble_eq_true rfl, Nat.le_of_ble_eq_true rfl, Nat.le_of_ble_eq_true rfl, Nat.le_of_ble_eq_true rfl⟩ rfl (c_Mod_in) ?_
      rintro v1 w9 ⟨hw9, ⟨hv1, hin⟩ | ⟨hv1, hin⟩⟩
      · skip
        rw [hv1, hw9]
        clear hv1 hw9 v1 w9
        dsimp only [Option.toList, List.cons_append, List.nil_append, List.append_nil]
        refine wp_call (pc' := 11) rfl rfl rfl rfl rfl ⟨Nat.le_of_ble_eq_true rfl, Nat.le_of_ble_eq_true rfl, Nat.le_of_ble_eq_true rfl, Nat.le_of_ble_eq_true rfl, Nat.le_of_ble_eq_true rfl⟩ rfl (c_Mod_need (by decide)) ?_
        rintro v1 w9 ⟨hw9, ⟨hv1, hg1⟩ | ⟨hv1, hg1, hg2⟩ | ⟨hv1, hg1, hg2⟩⟩
        · skip
          rw [hv1, hw9]
          clear hv1 hw9 v1 w9
          dsimp only [Option.toList, List.cons_append, List.nil_append, List.append_nil]
          refine wp_istore_n (pc' := 12) rfl rfl (Nat.le_of_ble_eq_true rfl) rfl ?_
          dsimp only [lset, lset2, List.set, List.getElem?_cons_zero, List.getElem?_cons_succ]
          refine wp_iload_n (pc' := 13) rfl rfl rfl ?_
          refine wp_if_ge (pc' := 16) (pt := 18) rfl rfl rfl (fun q_243 => absurd q_243 (by decide)) (fun q_243 => ?_)
          refine wp_iload_n (pc' := 17) rfl rfl rfl ?_
          refine wp_ret rfl rfl rfl ?_
          first
          | (exfalso; omega)
          | exact ⟨rfl, rfl, hI⟩
        · skip
          rw [hv1, hw9]
          clear hv1 hw9 v1 w9
          dsimp only [Option.toList, List.cons_append, List.nil_append, List.append_nil]
          refine wp_istore_n (pc' := 12) rfl rfl (Nat.le_of_ble_eq_true rfl) rfl ?_
          dsimp only [lset, lset2, List.set, List.getElem?_cons_zero, List.getElem?_cons_succ]
          refine wp_iload_n (pc' := 13) rfl rfl rfl ?_
          refine wp_if_ge (pc' := 16) (pt := 18) rfl rfl rfl (fun q_244 => absurd q_244 (by decide)) (fun q_244 => ?_)
          refine wp_iload_n (pc' := 17) rfl rfl rfl ?_
          refine wp_ret rfl rfl rfl ?_
          first
          | (exfalso; omega)
          | exact ⟨rfl, rfl, hI⟩
        · skip
          rw [hv1, hw9]
          clear hv1 hw9 v1 w9
          dsimp only [Option.toList, List.cons_append, List.nil_append, List.append_nil]
          refine wp_istore_n (pc' := 12) rfl rfl (Nat.le_of_ble_eq_true rfl) rfl ?_
          dsimp only [lset, lset2, List.set, List.getElem?_cons_zero, List.getElem?_cons_succ]
          refine wp_iload_n (pc' := 13) rfl rfl rfl ?_
          refine wp_if_ge (pc' := 16) (pt := 18) rfl rfl rfl (fun q_245 => ?_) (fun q_245 => absurd (by decide) q_245)
          exfalso; omega
      · skip
        rw [hv1, hw9]
        clear hv1 hw9 v1 w9
        dsimp only [Option.toList, List.cons_append, List.nil_append, List.append_nil]
        refine wp_call (pc' := 11) rfl rfl rfl rfl rfl ⟨Nat.le_of_ble_eq_true rfl, Nat.le_of_ble_eq_true rfl, Nat.le_of_ble_eq_true rfl, Nat.le_of_ble_eq_true rfl, Nat.le_of_ble_eq_true rfl⟩ rfl (c_Mod_need (by decide)) ?_
        rintro v1 w9 ⟨hw9, ⟨hv1, hg1⟩ | ⟨hv1, hg1, hg2⟩ | ⟨hv1, hg1, hg2⟩⟩
        · skip
          rw [hv1, hw9]
          clear hv1 hw9 v1 w9
          dsimp only [Option.toList, List.cons_append, List.nil_append, List.append_nil]
          refine wp_istore_n (pc' := 12) rfl rfl (Nat.le_of_ble_eq_true rfl) rfl ?_
          dsimp only [lset, lset2, List.set, List.getElem?_cons_zero, List.getElem?_cons_succ]
          refine wp_iload_n (pc' := 13) rfl rfl rfl ?_
          refine wp_if_ge (pc' := 16) (pt := 18) rfl rfl rfl (fun q_246 => absurd q_246 (by decide)) (fun q_246 => ?_)
          refine wp_iload_n (pc' := 17) rfl rfl rfl ?_
          refine wp_ret rfl rfl rfl ?_
          first
          | (exfalso; omega)
          | exact ⟨rfl, rfl, hI⟩
        · skip
          rw [hv1, hw9]
          clear hv1 hw9 v1 w9
          dsimp only [Option.toList, List.cons_append, List.nil_append, List.append_nil]
          refine wp_istore_n (pc' := 12) rfl rfl (Nat.le_of_ble_eq_true rfl) rfl ?_
          dsimp only [lset, lset2, List.set, List.getElem?_cons_zero, List.getElem?_cons_succ]
          refine wp_iload_n (pc' := 13) rfl rfl rfl ?_
          refine wp_if_ge (pc' := 16) (pt := 18) rfl rfl rfl (fun q_247 => absurd q_247 (by decide)) (fun q_247 => ?_)
          refine wp_iload_n (pc' := 17) rfl rfl rfl ?_
          refine wp_ret rfl rfl rfl ?_
          first
          | (exfalso; omega)
          | exact ⟨rfl, rfl, hI⟩
        · skip
          rw [hv1, hw9]
          clear hv1 hw9 v1 w9
          dsimp only [Option.toList, List.cons_append, List.nil_append, List.append_nil]
          refine wp_istore_n (pc' := 12) rfl rfl (Nat.le_of_ble_eq_true rfl) rfl ?_
          dsimp only [lset, lset2, List.set, List.getElem?_cons_zero, List.getElem?_cons_succ]
          refine wp_iload_n (pc' := 13) rfl rfl rfl ?_
          refine wp_if_ge (pc' := 16) (pt := 18) rfl rfl rfl (fun q_248 => ?_) (fun q_248 => absurd (by decide) q_248)
          exfalso; omega
