/-! course, the public call -/
def RQL : List Int := [29, 32, 33, 34, 35, 36, 120]
theorem Inv.rowsq {w w' : Hp} (h : Inv w) {r : Int} (h0 : 0 ≤ r) (h6 : r < 6) (hs : ∀ q k : Int, q ∉ RQL → q ≠ 54 + 2 * r → q ≠ 102 → q ≠ 103 → (q ≠ 53 + 2 * r ∨ k ≠ 1) → w' q k = w q k) (hr : w' (53 + 2 * r) 1 = w' 102 r ∧ (-1 ≤ w' 102 r ∧ w' 102 r ≤ 40) ∧ ∀ j : Int, 0 ≤ j → j < w' 102 r → w' (54 + 2 * r) j = w' 103 (40 * r + j) ∧ I32 (w' 103 (40 * r + j))) (ho : ∀ q : Int, 0 ≤ q → q < 6 → q ≠ r → w' 102 q = w 102 q ∧ ∀ j : Int, 0 ≤ j → j < 40 → w' 103 (40 * q + j) = w 103 (40 * q + j)) : Inv w' := by
  have hn : ∀ q : Int, (53 ≤ q ∧ q ≤ 103) ∨ q = 0 → q ∉ RQL := fun q hq => by simp [RQL]; omega
  obtain ⟨u, hu1, hu⟩ : ∃ u : Hp, (∀ q : Int, q ∈ RQL → u q = w q) ∧ (∀ q : Int, q ∉ RQL → u q = w' q) := ⟨fun q => if q ∈ RQL then w q else w' q, fun q h => if_pos h, fun q h => if_neg h⟩
  have ht : w' 0 14 = w' 100 2 := by
    rw [hs 0 14 (hn 0 (by omega)) (by omega) (by omega) (by omega) (by omega), hs 100 2 (hn 100 (by omega)) (by omega) (by omega) (by omega) (by omega)]
    exact h.2.2.2.1
  have hI2 : Inv u := by
    refine h.rows h0 h6 (fun q k hq hf => ?_) ?_ ?_ ?_
    · by_cases hm : q ∈ RQL
      · rw [hu1 q hm]
      · rw [hu q hm]
        refine hs q k hm (fun z => hq (by simp [z])) (fun z => hq (by simp [z])) (fun z => hq (by simp [z])) ?_
        simp at hf
        omega
    · rw [hu 0 (hn 0 (by omega)), hu 100 (hn 100 (by omega))]
      exact ht
    · rw [hu (53 + 2 * r) (hn _ (by omega)), hu (54 + 2 * r) (hn _ (by omega)), hu 102 (hn _ (by omega)), hu 103 (hn _ (by omega))]
      exact hr
    · rw [hu 102 (hn _ (by omega)), hu 103 (hn _ (by omega))]
      exact ho
  refine hI2.query (fun q k hq hf => ?_) ht
  rw [hu q (fun z => hq ((by decide : ∀ q ∈ RQL, q ∈ LQ) q z))]
set_option maxRecDepth 20000 in
set_option maxHeartbeats 4000000 in
theorem p_course {w : Hp} {d : Nat} {n : Int} {r : Int} (hI : Inv w) : WP SH (d + 9) 105 0 [some (vR 0), some (vI n), some (vI r)] [] w (fun v0 w1 => ∃ a, v0 = some (vI a) ∧ w1 (-2) = w (-2) ∧ WP SH (d + 9) 206 0 [some (vR 100), some (vI n), some (vI r), none, none, none, none, none, none] [] w1 (fun v2 w2 => v2 = some (vI a) ∧ w2 (-2) = w1 (-2) ∧ Inv w2)) := by
  obtain ⟨hT, hRO, hIF, hITo, hIR, hIT, hIL, hIK⟩ := id hI
  obtain ⟨hn25, b11, b12, b10, hn6, hem, m0, m1, m2, m23, hyr, hdd, hpre⟩ := hI.base
  have hmm : w 100 11 * w 100 12 = w 3 0 * w 3 1 := by rw [b11, b12]
  refine wp_iload_n (pc' := 1) rfl rfl rfl ?_
  refine wp_if_lt (pc' := 4) (pt := 16) rfl rfl rfl (fun q_1 => ?_) (fun q_1 => ?_)
  · skip
    refine wp_iconst (a := -1) (pc' := 17) rfl rfl rfl ?_
    refine wp_ret rfl rfl rfl ?_
    refine ⟨_, rfl, ?_, ?_⟩
    · rfl
    refine wp_aload_n (pc' := 1) rfl rfl rfl (by decide) ?_
    refine wp_iload_n (pc' := 2) rfl rfl rfl ?_
    refine wp_iconst (a := 0) (pc' := 3) rfl rfl rfl ?_
    refine wp_iconst (a := 5) (pc' := 4) rfl rfl rfl ?_
    refine wp_call (pc' := 7) rfl rfl rfl rfl rfl ⟨Nat.le_of_ble_eq_true rfl, Nat.le_of_ble_eq_true rfl, Nat.le_of_ble_eq_true rfl, Nat.le_of_ble_eq_true rfl, Nat.le_of_ble_eq_true rfl⟩ rfl (c_Mod_in) ?_
    rintro v1 w9 ⟨hw9, ⟨hv1, hin⟩ | ⟨hv1, hin⟩⟩
    · skip
      rw [hv1, hw9]
      clear hv1 hw9 v1 w9
      dsimp only [Option.toList, List.cons_append, List.nil_append, List.append_nil]
      refine wp_if_eq (pc' := 10) (pt := 21) rfl rfl rfl (fun q_52 => absurd q_52 (by decide)) (fun q_52 => ?_)
      refine wp_iload_n (pc' := 11) rfl rfl rfl ?_
      refine wp_call (pc' := 14) rfl rfl rfl rfl rfl ⟨Nat.le_of_ble_eq_true rfl, Nat.le_of_ble_eq_true rfl, Nat.le_of_ble_eq_true rfl, Nat.le_of_ble_eq_true rfl, Nat.le_of_ble_eq_true rfl⟩ rfl (c_Mod_isRow) ?_
      rintro v1 w9 ⟨hw9, ⟨hv1, hro⟩ | ⟨hv1, hro⟩⟩
      · skip
        rw [hv1, hw9]
        clear hv1 hw9 v1 w9
        dsimp only [Option.toList, List.cons_append, List.nil_append, List.append_nil]
        refine wp_if_eq (pc' := 17) (pt := 21) rfl rfl rfl (fun q_53 => absurd q_53 (by decide)) (fun q_53 => ?_)
        refine wp_iconst (a := 1) (pc' := 18) rfl rfl rfl ?_
        refine wp_goto (pc' := 22) rfl rfl ?_
        refine wp_call (pc' := 25) rfl rfl rfl rfl rfl ⟨Nat.le_of_ble_eq_true rfl, Nat.le_of_ble_eq_true rfl, Nat.le_of_ble_eq_true rfl, Nat.le_of_ble_eq_true rfl, Nat.le_of_ble_eq_true rfl⟩ rfl (c_Mod_need (by decide)) ?_
        rintro v1 w9 ⟨hw9, ⟨hv1, hg1⟩ | ⟨hv1, hg1, hg2⟩ | ⟨hv1, hg1, hg2⟩⟩
        · skip
          rw [hv1, hw9]
          clear hv1 hw9 v1 w9
          dsimp only [Option.toList, List.cons_append, List.nil_append, List.append_nil]
          refine wp_istore_n (pc' := 26) rfl rfl (Nat.le_of_ble_eq_true rfl) rfl ?_
          dsimp only [lset, lset2, List.set, List.getElem?_cons_zero, List.getElem?_cons_succ]
          refine wp_iload_n (pc' := 27) rfl rfl rfl ?_
          refine wp_if_ge (pc' := 30) (pt := 32) rfl rfl rfl (fun q_54 => absurd q_54 (by decide)) (fun q_54 => ?_)
          refine wp_iload_n (pc' := 31) rfl rfl rfl ?_
          refine wp_ret rfl rfl rfl ?_
          first
          | (exfalso; omega)
          | exact ⟨rfl, rfl, hI⟩
        · skip
          rw [hv1, hw9]
          clear hv1 hw9 v1 w9
          dsimp only [Option.toList, List.cons_append, List.nil_append, List.append_nil]
          refine wp_istore_n (pc' := 26) rfl rfl (Nat.le_of_ble_eq_true rfl) rfl ?_
          dsimp only [lset, lset2, List.set, List.getElem?_cons_zero, List.getElem?_cons_succ]
          refine wp_iload_n (pc' := 27) rfl rfl rfl ?_
          refine wp_if_ge (pc' := 30) (pt := 32) rfl rfl rfl (fun q_55 => absurd q_55 (by decide)) (fun q_55 => ?_)
          refine wp_iload_n (pc' := 31) rfl rfl rfl ?_
          refine wp_ret rfl rfl rfl ?_
          first
          | (exfalso; omega)
          | exact ⟨rfl, rfl, hI⟩
        · skip
          rw [hv1, hw9]
          clear hv1 hw9 v1 w9
          dsimp only [Option.toList, List.cons_append, List.nil_append, List.append_nil]
          refine wp_istore_n (pc' := 26) rfl rfl (Nat.le_of_ble_eq_true rfl) rfl ?_
          dsimp only [lset, lset2, List.set, List.getElem?_cons_zero, List.getElem?_cons_succ]
          refine wp_iload_n (pc' := 27) rfl rfl rfl ?_
          refine wp_if_ge (pc' := 30) (pt := 32) rfl rfl rfl (fun q_56 => ?_) (fun q_56 => absurd (by decide) q_56)
          exfalso; omega
      · skip
        rw [hv1, hw9]
        clear hv1 hw9 v1 w9
        dsimp only [Option.toList, List.cons_append, List.nil_append, List.append_nil]
        refine wp_if_eq (pc' := 17) (pt := 21) rfl rfl rfl (fun q_57 => ?_) (fun q_57 => absurd (by decide) q_57)
        refine wp_iconst (a := 0) (pc' := 22) rfl rfl rfl ?_
        refine wp_call (pc' := 25) rfl rfl rfl rfl rfl ⟨Nat.le_of_ble_eq_true rfl, Nat.le_of_ble_eq_true rfl, Nat.le_of_ble_eq_true rfl, Nat.le_of_ble_eq_true rfl, Nat.le_of_ble_eq_true rfl⟩ rfl (c_Mod_need (by decide)) ?_
        rintro v1 w9 ⟨hw9, ⟨hv1, hg1⟩ | ⟨hv1, hg1, hg2⟩ | ⟨hv1, hg1, hg2⟩⟩
        · skip
          rw [hv1, hw9]
          clear hv1 hw9 v1 w9
          dsimp only [Option.toList, List.cons_append, List.nil_append, List.append_nil]
          refine wp_istore_n (pc' := 26) rfl rfl (Nat.le_of_ble_eq_true rfl) rfl ?_
          dsimp only [lset, lset2, List.set, List.getElem?_cons_zero, List.getElem?_cons_succ]
          refine wp_iload_n (pc' := 27) rfl rfl rfl ?_
          refine wp_if_ge (pc' := 30) (pt := 32) rfl rfl rfl (fun q_58 => absurd q_58 (by decide)) (fun q_58 => ?_)
          refine wp_iload_n (pc' := 31) rfl rfl rfl ?_
          refine wp_ret rfl rfl rfl ?_
          first
          | (exfalso; omega)
          | exact ⟨rfl, rfl, hI⟩
        · skip
          rw [hv1, hw9]
          clear hv1 hw9 v1 w9
          dsimp only [Option.toList, List.cons_append, List.nil_append, List.append_nil]
          refine wp_istore_n (pc' := 26) rfl rfl (Nat.le_of_ble_eq_true rfl) rfl ?_
          dsimp only [lset, lset2, List.set, List.getElem?_cons_zero, List.getElem?_cons_succ]
          refine wp_iload_n (pc' := 27) rfl rfl rfl ?_
          refine wp_if_ge (pc' := 30) (pt := 32) rfl rfl rfl (fun q_59 => absurd q_59 (by decide)) (fun q_59 => ?_)
          refine wp_iload_n (pc' := 31) rfl rfl rfl ?_
          refine wp_ret rfl rfl rfl ?_
          first
          | (exfalso; omega)
          | exact ⟨rfl, rfl, hI⟩
        · skip
          rw [hv1, hw9]
          clear hv1 hw9 v1 w9
          dsimp only [Option.toList, List.cons_append, List.nil_append, List.append_nil]
          refine wp_istore_n (pc' := 26) rfl rfl (Nat.le_of_ble_eq_true rfl) rfl ?_
          dsimp only [lset, lset2, List.set, List.getElem?_cons_zero, List.getElem?_cons_succ]
          refine wp_iload_n (pc' := 27) rfl rfl rfl ?_
          refine wp_if_ge (pc' := 30) (pt := 32) rfl rfl rfl (fun q_60 => ?_) (fun q_60 => absurd (by decide) q_60)
          exfalso; omega
    · skip
      rw [hv1, hw9]
      clear hv1 hw9 v1 w9
      dsimp only [Option.toList, List.cons_append, List.nil_append, List.append_nil]
      refine wp_if_eq (pc' := 10) (pt := 21) rfl rfl rfl (fun q_61 => ?_) (fun q_61 => absurd (by decide) q_61)
      refine wp_iconst (a := 0) (pc' := 22) rfl rfl rfl ?_
      refine wp_call (pc' := 25) rfl rfl rfl rfl rfl ⟨Nat.le_of_ble_eq_true rfl, Nat.le_of_ble_eq_true rfl, Nat.le_of_ble_eq_true rfl, Nat.le_of_ble_eq_true rfl, Nat.le_of_ble_eq_true rfl⟩ rfl (c_Mod_need (by decide)) ?_
      rintro v1 w9 ⟨hw9, ⟨hv1, hg1⟩ | ⟨hv1, hg1, hg2⟩ | ⟨hv1, hg1, hg2⟩⟩
      · skip
        rw [hv1, hw9]
        clear hv1 hw9 v1 w9
        dsimp only [Option.toList, List.cons_append, List.nil_append, List.append_nil]
        refine wp_istore_n (pc' := 26) rfl rfl (Nat.le_of_ble_eq_true rfl) rfl ?_
        dsimp only [lset, lset2, List.set, List.getElem?_cons_zero, List.getElem?_cons_succ]
        refine wp_iload_n (pc' := 27) rfl rfl rfl ?_
        refine wp_if_ge (pc' := 30) (pt := 32) rfl rfl rfl (fun q_62 => absurd q_62 (by decide)) (fun q_62 => ?_)
        refine wp_iload_n (pc' := 31) rfl rfl rfl ?_
        refine wp_ret rfl rfl rfl ?_
        first
        | (exfalso; omega)
        | exact ⟨rfl, rfl, hI⟩
      · skip
        rw [hv1, hw9]
        clear hv1 hw9 v1 w9
        dsimp only [Option.toList, List.cons_append, List.nil_append, List.append_nil]
        refine wp_istore_n (pc' := 26) rfl rfl (Nat.le_of_ble_eq_true rfl) rfl ?_
        dsimp only [lset, lset2, List.set, List.getElem?_cons_zero, List.getElem?_cons_succ]
        refine wp_iload_n (pc' := 27) rfl rfl rfl ?_
        refine wp_if_ge (pc' := 30) (pt := 32) rfl rfl rfl (fun q_63 => absurd q_63 (by decide)) (fun q_63 => ?_)
        refine wp_iload_n (pc' := 31) rfl rfl rfl ?_
        refine wp_ret rfl rfl rfl ?_
        first
        | (exfalso; omega)
        | exact ⟨rfl, rfl, hI⟩
      · skip
        rw [hv1, hw9]
        clear hv1 hw9 v1 w9
        dsimp only [Option.toList, List.cons_append, List.nil_append, List.append_nil]
        refine wp_istore_n (pc' := 26) rfl rfl (Nat.le_of_ble_eq_true rfl) rfl ?_
        dsimp only [lset, lset2, List.set, List.getElem?_cons_zero, List.getElem?_cons_succ]
        refine wp_iload_n (pc' := 27) rfl rfl rfl ?_
        refine wp_if_ge (pc' := 30) (pt := 32) rfl rfl rfl (fun q_64 => ?_) (fun q_64 => absurd (by decide) q_64)
        exfalso; omega
  · skip
    refine wp_iload_n (pc' := 5) rfl rfl rfl ?_
    refine wp_iconst (a := 5) (pc' := 6) rfl rfl rfl ?_
    refine wp_icmp_gt (pc' := 9) (pt := 16) rfl rfl rfl (fun q_65 => ?_) (fun q_65 => ?_)
    · skip
      refine wp_iconst (a := -1) (pc' := 17) rfl rfl rfl ?_
      refine wp_ret rfl rfl rfl ?_
      refine ⟨_, rfl, ?_, ?_⟩
      · rfl
      refine wp_aload_n (pc' := 1) rfl rfl rfl (by decide) ?_
      refine wp_iload_n (pc' := 2) rfl rfl rfl ?_
      refine wp_iconst (a := 0) (pc' := 3) rfl rfl rfl ?_
      refine wp_iconst (a := 5) (pc' := 4) rfl rfl rfl ?_
      refine wp_call (pc' := 7) rfl rfl rfl rfl rfl ⟨Nat.le_of_ble_eq_true rfl, Nat.le_of_ble_eq_true rfl, Nat.le_of_ble_eq_true rfl, Nat.le_of_ble_eq_true rfl, Nat.le_of_ble_eq_true rfl⟩ rfl (c_Mod_in) ?_
      rintro v1 w9 ⟨hw9, ⟨hv1, hin⟩ | ⟨hv1, hin⟩⟩
      · skip
        rw [hv1, hw9]
        clear hv1 hw9 v1 w9
        dsimp only [Option.toList, List.cons_append, List.nil_append, List.append_nil]
        refine wp_if_eq (pc' := 10) (pt := 21) rfl rfl rfl (fun q_116 => absurd q_116 (by decide)) (fun q_116 => ?_)
        refine wp_iload_n (pc' := 11) rfl rfl rfl ?_
        refine wp_call (pc' := 14) rfl rfl rfl rfl rfl ⟨Nat.le_of_ble_eq_true rfl, Nat.le_of_ble_eq_true rfl, Nat.le_of_ble_eq_true rfl, Nat.le_of_ble_eq_true rfl, Nat.le_of_ble_eq_true rfl⟩ rfl (c_Mod_isRow) ?_
        rintro v1 w9 ⟨hw9, ⟨hv1, hro⟩ | ⟨hv1, hro⟩⟩
        · skip
          rw [hv1, hw9]
          clear hv1 hw9 v1 w9
          dsimp only [Option.toList, List.cons_append, List.nil_append, List.append_nil]
          refine wp_if_eq (pc' := 17) (pt := 21) rfl rfl rfl (fun q_117 => absurd q_117 (by decide)) (fun q_117 => ?_)
          refine wp_iconst (a := 1) (pc' := 18) rfl rfl rfl ?_
          refine wp_goto (pc' := 22) rfl rfl ?_
          refine wp_call (pc' := 25) rfl rfl rfl rfl rfl ⟨Nat.le_of_ble_eq_true rfl, Nat.le_of_ble_eq_true rfl, Nat.le_of_ble_eq_true rfl, Nat.le_of_ble_eq_true rfl, Nat.le_of_ble_eq_true rfl⟩ rfl (c_Mod_need (by decide)) ?_
          rintro v1 w9 ⟨hw9, ⟨hv1, hg1⟩ | ⟨hv1, hg1, hg2⟩ | ⟨hv1, hg1, hg2⟩⟩
          · skip
            rw [hv1, hw9]
            clear hv1 hw9 v1 w9
            dsimp only [Option.toList, List.cons_append, List.nil_append, List.append_nil]
            refine wp_istore_n (pc' := 26) rfl rfl (Nat.le_of_ble_eq_true rfl) rfl ?_
            dsimp only [lset, lset2, List.set, List.getElem?_cons_zero, List.getElem?_cons_succ]
            refine wp_iload_n (pc' := 27) rfl rfl rfl ?_
            refine wp_if_ge (pc' := 30) (pt := 32) rfl rfl rfl (fun q_118 => absurd q_118 (by decide)) (fun q_118 => ?_)
            refine wp_iload_n (pc' := 31) rfl rfl rfl ?_
            refine wp_ret rfl rfl rfl ?_
            first
            | (exfalso; omega)
            | exact ⟨rfl, rfl, hI⟩
          · skip
            rw [hv1, hw9]
            clear hv1 hw9 v1 w9
            dsimp only [Option.toList, List.cons_append, List.nil_append, List.append_nil]
            refine wp_istore_n (pc' := 26) rfl rfl (Nat.le_of_ble_eq_true rfl) rfl ?_
            dsimp only [lset, lset2, List.set, List.getElem?_cons_zero, List.getElem?_cons_succ]
            refine wp_iload_n (pc' := 27) rfl rfl rfl ?_
            refine wp_if_ge (pc' := 30) (pt := 32) rfl rfl rfl (fun q_119 => absurd q_119 (by decide)) (fun q_119 => ?_)
            refine wp_iload_n (pc' := 31) rfl rfl rfl ?_
            refine wp_ret rfl rfl rfl ?_
            first
            | (exfalso; omega)
            | exact ⟨rfl, rfl, hI⟩
          · skip
            rw [hv1, hw9]
            clear hv1 hw9 v1 w9
            dsimp only [Option.toList, List.cons_append, List.nil_append, List.append_nil]
            refine wp_istore_n (pc' := 26) rfl rfl (Nat.le_of_ble_eq_true rfl) rfl ?_
            dsimp only [lset, lset2, List.set, List.getElem?_cons_zero, List.getElem?_cons_succ]
            refine wp_iload_n (pc' := 27) rfl rfl rfl ?_
            refine wp_if_ge (pc' := 30) (pt := 32) rfl rfl rfl (fun q_120 => ?_) (fun q_120 => absurd (by decide) q_120)
            exfalso; omega
        · skip
          rw [hv1, hw9]
          clear hv1 hw9 v1 w9
          dsimp only [Option.toList, List.cons_append, List.nil_append, List.append_nil]
          refine wp_if_eq (pc' := 17) (pt := 21) rfl rfl rfl (fun q_121 => ?_) (fun q_121 => absurd (by decide) q_121)
          refine wp_iconst (a := 0) (pc' := 22) rfl rfl rfl ?_
          refine wp_call (pc' := 25) rfl rfl rfl rfl rfl ⟨Nat.le_of_ble_eq_true rfl, Nat.le_of_ble_eq_true rfl, Nat.le_of_ble_eq_true rfl, Nat.le_of_ble_eq_true rfl, Nat.le_of_ble_eq_true rfl⟩ rfl (c_Mod_need (by decide)) ?_
          rintro v1 w9 ⟨hw9, ⟨hv1, hg1⟩ | ⟨hv1, hg1, hg2⟩ | ⟨hv1, hg1, hg2⟩⟩
          · skip
            rw [hv1, hw9]
            clear hv1 hw9 v1 w9
            dsimp only [Option.toList, List.cons_append, List.nil_append, List.append_nil]
            refine wp_istore_n (pc' := 26) rfl rfl (Nat.le_of_ble_eq_true rfl) rfl ?_
            dsimp only [lset, lset2, List.set, List.getElem?_cons_zero, List.getElem?_cons_succ]
            refine wp_iload_n (pc' := 27) rfl rfl rfl ?_
            refine wp_if_ge (pc' := 30) (pt := 32) rfl rfl rfl (fun q_122 => absurd q_122 (by decide)) (fun q_122 => ?_)
            refine wp_iload_n (pc' := 31) rfl rfl rfl ?_
            refine wp_ret rfl rfl rfl ?_
            first
            | (exfalso; omega)
            | exact ⟨rfl, rfl, hI⟩
          · skip
            rw [hv1, hw9]
            clear hv1 hw9 v1 w9
            dsimp only [Option.toList, List.cons_append, List.nil_append, List.append_nil]
            refine wp_istore_n (pc' := 26) rfl rfl (Nat.le_of_ble_eq_true rfl) rfl ?_
            dsimp only [lset, lset2, List.set, List.getElem?_cons_zero, List.getElem?_cons_succ]
            refine wp_iload_n (pc' := 27) rfl rfl rfl ?_
            refine wp_if_ge (pc' := 30) (pt := 32) rfl rfl rfl (fun q_123 => absurd q_123 (by decide)) (fun q_123 => ?_)
            refine wp_iload_n (pc' := 31) rfl rfl rfl ?_
            refine wp_ret rfl rfl rfl ?_
            first
            | (exfalso; omega)
            | exact ⟨rfl, rfl, hI⟩
          · skip
            rw [hv1, hw9]
            clear hv1 hw9 v1 w9
            dsimp only [Option.toList, List.cons_append, List.nil_append, List.append_nil]
            refine wp_istore_n (pc' := 26) rfl rfl (Nat.le_of_ble_eq_true rfl) rfl ?_
            dsimp only [lset, lset2, List.set, List.getElem?_cons_zero, List.getElem?_cons_succ]
            refine wp_iload_n (pc' := 27) rfl rfl rfl ?_
            refine wp_if_ge (pc' := 30) (pt := 32) rfl rfl rfl (fun q_124 => ?_) (fun q_124 => absurd (by decide) q_124)
            exfalso; omega
      · skip
        rw [hv1, hw9]
        clear hv1 hw9 v1 w9
        dsimp only [Option.toList, List.cons_append, List.nil_append, List.append_nil]
        refine wp_if_eq (pc' := 10) (pt := 21) rfl rfl rfl (fun q_125 => ?_) (fun q_125 => absurd (by decide) q_125)
        refine wp_iconst (a := 0) (pc' := 22) rfl rfl rfl ?_
        refine wp_call (pc' := 25) rfl rfl rfl rfl rfl ⟨Nat.le_of_ble_eq_true rfl, Nat.le_of_ble_eq_true rfl, Nat.le_of_ble_eq_true rfl, Nat.le_of_ble_eq_true rfl, Nat.le_of_ble_eq_true rfl⟩ rfl (c_Mod_need (by decide)) ?_
        rintro v1 w9 ⟨hw9, ⟨hv1, hg1⟩ | ⟨hv1, hg1, hg2⟩ | ⟨hv1, hg1, hg2⟩⟩
        · skip
          rw [hv1, hw9]
          clear hv1 hw9 v1 w9
          dsimp only [Option.toList, List.cons_append, List.nil_append, List.append_nil]
          refine wp_istore_n (pc' := 26) rfl rfl (Nat.le_of_ble_eq_true rfl) rfl ?_
          dsimp only [lset, lset2, List.set, List.getElem?_cons_zero, List.getElem?_cons_succ]
          refine wp_iload_n (pc' := 27) rfl rfl rfl ?_
          refine wp_if_ge (pc' := 30) (pt := 32) rfl rfl rfl (fun q_126 => absurd q_126 (by decide)) (fun q_126 => ?_)
          refine wp_iload_n (pc' := 31) rfl rfl rfl ?_
          refine wp_ret rfl rfl rfl ?_
          first
          | (exfalso; omega)
          | exact ⟨rfl, rfl, hI⟩
        · skip
          rw [hv1, hw9]
          clear hv1 hw9 v1 w9
          dsimp only [Option.toList, List.cons_append, List.nil_append, List.append_nil]
          refine wp_istore_n (pc' := 26) rfl rfl (Nat.le_of_ble_eq_true rfl) rfl ?_
          dsimp only [lset, lset2, List.set, List.getElem?_cons_zero, List.getElem?_cons_succ]
          refine wp_iload_n (pc' := 27) rfl rfl rfl ?_
          refine wp_if_ge (pc' := 30) (pt := 32) rfl rfl rfl (fun q_127 => absurd q_127 (by decide)) (fun q_127 => ?_)
          refine wp_iload_n (pc' := 31) rfl rfl rfl ?_
          refine wp_ret rfl rfl rfl ?_
          first
          | (exfalso; omega)
          | exact ⟨rfl, rfl, hI⟩
        · skip
          rw [hv1, hw9]
          clear hv1 hw9 v1 w9
          dsimp only [Option.toList, List.cons_append, List.nil_append, List.append_nil]
          refine wp_istore_n (pc' := 26) rfl rfl (Nat.le_of_ble_eq_true rfl) rfl ?_
          dsimp only [lset, lset2, List.set, List.getElem?_cons_zero, List.getElem?_cons_succ]
          refine wp_iload_n (pc' := 27) rfl rfl rfl ?_
          refine wp_if_ge (pc' := 30) (pt := 32) rfl rfl rfl (fun q_128 => ?_) (fun q_128 => absurd (by decide) q_128)
          exfalso; omega
    · skip
      refine wp_iload_n (pc' := 10) rfl rfl rfl ?_
      refine wp_call (pc' := 13) rfl rfl rfl rfl rfl ⟨Nat.le_of_ble_eq_true rfl, Nat.le_of_ble_eq_true rfl, Nat.le_of_ble_eq_true rfl, Nat.le_of_ble_eq_true rfl, Nat.le_of_ble_eq_true rfl⟩ rfl (c_VH_isRow) ?_
      rintro v1 w9 ⟨hw9, ⟨hv1, hb1⟩ | ⟨hv1, hb1⟩⟩
      · skip
        rw [hv1, hw9]
        clear hv1 hw9 v1 w9
        have hst := strip_row hT hb1.1 hb1.2
        have hs7 := hst.1.1
        have hs1 := hst.1.2.1
        dsimp only [Option.toList, List.cons_append, List.nil_append, List.append_nil]
        refine wp_if_ne (pc' := 16) (pt := 18) rfl rfl rfl (fun q_129 => ?_) (fun q_129 => absurd (by decide) q_129)
        refine wp_aload_n (pc' := 19) rfl rfl rfl (by decide) ?_
        refine wp_getR (r' := 3) (ci := 9) (k0 := 2) (pc' := 22) rfl rfl (by decide) (by first | assumption | rfl) (hT.get 2 rfl) ?_
        refine wp_call (pc' := 25) rfl rfl rfl rfl rfl ⟨Nat.le_of_ble_eq_true rfl, Nat.le_of_ble_eq_true rfl, Nat.le_of_ble_eq_true rfl, Nat.le_of_ble_eq_true rfl, Nat.le_of_ble_eq_true rfl⟩ rfl (c_Land_isEmpty_3) ?_
        rintro v1 w9 ⟨hw9, ⟨hv1, he⟩ | ⟨hv1, he⟩⟩
        · skip
          rw [hv1, hw9]
          clear hv1 hw9 v1 w9
          dsimp only [Option.toList, List.cons_append, List.nil_append, List.append_nil]
          refine wp_if_eq (pc' := 28) (pt := 31) rfl rfl rfl (fun q_130 => absurd q_130 (by decide)) (fun q_130 => ?_)
          refine wp_bipush (a := -4) (pc' := 30) rfl rfl rfl ?_
          refine wp_ret rfl rfl rfl ?_
          refine ⟨_, rfl, ?_, ?_⟩
          · rfl
          refine wp_aload_n (pc' := 1) rfl rfl rfl (by decide) ?_
          refine wp_iload_n (pc' := 2) rfl rfl rfl ?_
          refine wp_iconst (a := 0) (pc' := 3) rfl rfl rfl ?_
          refine wp_iconst (a := 5) (pc' := 4) rfl rfl rfl ?_
          refine wp_call (pc' := 7) rfl rfl rfl rfl rfl ⟨Nat.le_of_ble_eq_true rfl, Nat.le_of_ble_eq_true rfl, Nat.le_of_ble_eq_true rfl, Nat.le_of_ble_eq_true rfl, Nat.le_of_ble_eq_true rfl⟩ rfl (c_Mod_in) ?_
          rintro v1 w9 ⟨hw9, ⟨hv1, hin⟩ | ⟨hv1, hin⟩⟩
          · skip
            rw [hv1, hw9]
            clear hv1 hw9 v1 w9
            dsimp only [Option.toList, List.cons_append, List.nil_append, List.append_nil]
            refine wp_if_eq (pc' := 10) (pt := 21) rfl rfl rfl (fun q_181 => absurd q_181 (by decide)) (fun q_181 => ?_)
            refine wp_iload_n (pc' := 11) rfl rfl rfl ?_
            refine wp_call (pc' := 14) rfl rfl rfl rfl rfl ⟨Nat.le_of_ble_eq_true rfl, Nat.le_of_ble_eq_true rfl, Nat.le_of_ble_eq_true rfl, Nat.le_of_ble_eq_true rfl, Nat.le_of_ble_eq_true rfl⟩ rfl (c_Mod_isRow) ?_
            rintro v1 w9 ⟨hw9, ⟨hv1, hro⟩ | ⟨hv1, hro⟩⟩
            · skip
              rw [hv1, hw9]
              clear hv1 hw9 v1 w9
              dsimp only [Option.toList, List.cons_append, List.nil_append, List.append_nil]
              refine wp_if_eq (pc' := 17) (pt := 21) rfl rfl rfl (fun q_182 => absurd q_182 (by decide)) (fun q_182 => ?_)
              refine wp_iconst (a := 1) (pc' := 18) rfl rfl rfl ?_
              refine wp_goto (pc' := 22) rfl rfl ?_
              refine wp_call (pc' := 25) rfl rfl rfl rfl rfl ⟨Nat.le_of_ble_eq_true rfl, Nat.le_of_ble_eq_true rfl, Nat.le_of_ble_eq_true rfl, Nat.le_of_ble_eq_true rfl, Nat.le_of_ble_eq_true rfl⟩ rfl (c_Mod_need (by decide)) ?_
              rintro v1 w9 ⟨hw9, ⟨hv1, hg1⟩ | ⟨hv1, hg1, hg2⟩ | ⟨hv1, hg1, hg2⟩⟩
              · skip
                rw [hv1, hw9]
                clear hv1 hw9 v1 w9
                dsimp only [Option.toList, List.cons_append, List.nil_append, List.append_nil]
                refine wp_istore_n (pc' := 26) rfl rfl (Nat.le_of_ble_eq_true rfl) rfl ?_
                dsimp only [lset, lset2, List.set, List.getElem?_cons_zero, List.getElem?_cons_succ]
                refine wp_iload_n (pc' := 27) rfl rfl rfl ?_
                refine wp_if_ge (pc' := 30) (pt := 32) rfl rfl rfl (fun q_183 => absurd q_183 (by decide)) (fun q_183 => ?_)
                refine wp_iload_n (pc' := 31) rfl rfl rfl ?_
                refine wp_ret rfl rfl rfl ?_
                first
                | (exfalso; omega)
                | exact ⟨rfl, rfl, hI⟩
              · skip
                rw [hv1, hw9]
                clear hv1 hw9 v1 w9
                dsimp only [Option.toList, List.cons_append, List.nil_append, List.append_nil]
                refine wp_istore_n (pc' := 26) rfl rfl (Nat.le_of_ble_eq_true rfl) rfl ?_
                dsimp only [lset, lset2, List.set, List.getElem?_cons_zero, List.getElem?_cons_succ]
                refine wp_iload_n (pc' := 27) rfl rfl rfl ?_
                refine wp_if_ge (pc' := 30) (pt := 32) rfl rfl rfl (fun q_184 => absurd q_184 (by decide)) (fun q_184 => ?_)
                refine wp_iload_n (pc' := 31) rfl rfl rfl ?_
                refine wp_ret rfl rfl rfl ?_
                first
                | (exfalso; omega)
                | exact ⟨rfl, rfl, hI⟩
              · skip
                rw [hv1, hw9]
                clear hv1 hw9 v1 w9
                dsimp only [Option.toList, List.cons_append, List.nil_append, List.append_nil]
                refine wp_istore_n (pc' := 26) rfl rfl (Nat.le_of_ble_eq_true rfl) rfl ?_
                dsimp only [lset, lset2, List.set, List.getElem?_cons_zero, List.getElem?_cons_succ]
                refine wp_iload_n (pc' := 27) rfl rfl rfl ?_
                refine wp_if_ge (pc' := 30) (pt := 32) rfl rfl rfl (fun q_185 => ?_) (fun q_185 => absurd (by decide) q_185)
                exfalso; omega
            · skip
              rw [hv1, hw9]
              clear hv1 hw9 v1 w9
              dsimp only [Option.toList, List.cons_append, List.nil_append, List.append_nil]
              refine wp_if_eq (pc' := 17) (pt := 21) rfl rfl rfl (fun q_186 => ?_) (fun q_186 => absurd (by decide) q_186)
              refine wp_iconst (a := 0) (pc' := 22) rfl rfl rfl ?_
              refine wp_call (pc' := 25) rfl rfl rfl rfl rfl ⟨Nat.le_of_ble_eq_true rfl, Nat.le_of_ble_eq_true rfl, Nat.le_of_ble_eq_true rfl, Nat.le_of_ble_eq_true rfl, Nat.le_of_ble_eq_true rfl⟩ rfl (c_Mod_need (by decide)) ?_
              rintro v1 w9 ⟨hw9, ⟨hv1, hg1⟩ | ⟨hv1, hg1, hg2⟩ | ⟨hv1, hg1, hg2⟩⟩
              · skip
                rw [hv1, hw9]
                clear hv1 hw9 v1 w9
                dsimp only [Option.toList, List.cons_append, List.nil_append, List.append_nil]
                refine wp_istore_n (pc' := 26) rfl rfl (Nat.le_of_ble_eq_true rfl) rfl ?_
                dsimp only [lset, lset2, List.set, List.getElem?_cons_zero, List.getElem?_cons_succ]
                refine wp_iload_n (pc' := 27) rfl rfl rfl ?_
                refine wp_if_ge (pc' := 30) (pt := 32) rfl rfl rfl (fun q_187 => absurd q_187 (by decide)) (fun q_187 => ?_)
                refine wp_iload_n (pc' := 31) rfl rfl rfl ?_
                refine wp_ret rfl rfl rfl ?_
                first
                | (exfalso; omega)
                | exact ⟨rfl, rfl, hI⟩
              · skip
                rw [hv1, hw9]
                clear hv1 hw9 v1 w9
                dsimp only [Option.toList, List.cons_append, List.nil_append, List.append_nil]
                refine wp_istore_n (pc' := 26) rfl rfl (Nat.le_of_ble_eq_true rfl) rfl ?_
                dsimp only [lset, lset2, List.set, List.getElem?_cons_zero, List.getElem?_cons_succ]
                refine wp_iload_n (pc' := 27) rfl rfl rfl ?_
                refine wp_if_ge (pc' := 30) (pt := 32) rfl rfl rfl (fun q_188 => absurd q_188 (by decide)) (fun q_188 => ?_)
                refine wp_iload_n (pc' := 31) rfl rfl rfl ?_
                refine wp_ret rfl rfl rfl ?_
                first
                | (exfalso; omega)
                | exact ⟨rfl, rfl, hI⟩
              · skip
                rw [hv1, hw9]
                clear hv1 hw9 v1 w9
                dsimp only [Option.toList, List.cons_append, List.nil_append, List.append_nil]
                refine wp_istore_n (pc' := 26) rfl rfl (Nat.le_of_ble_eq_true rfl) rfl ?_
                dsimp only [lset, lset2, List.set, List.getElem?_cons_zero, List.getElem?_cons_succ]
                refine wp_iload_n (pc' := 27) rfl rfl rfl ?_
                refine wp_if_ge (pc' := 30) (pt := 32) rfl rfl rfl (fun q_189 => ?_) (fun q_189 => absurd (by decide) q_189)
                exfalso; omega
          · skip
            rw [hv1, hw9]
            clear hv1 hw9 v1 w9
            dsimp only [Option.toList, List.cons_append, List.nil_append, List.append_nil]
            refine wp_if_eq (pc' := 10) (pt := 21) rfl rfl rfl (fun q_190 => ?_) (fun q_190 => absurd (by decide) q_190)
            refine wp_iconst (a := 0) (pc' := 22) rfl rfl rfl ?_
            refine wp_call (pc' := 25) rfl rfl rfl rfl rfl ⟨Nat.le_of_ble_eq_true rfl, Nat.le_of_ble_eq_true rfl, Nat.le_of_ble_eq_true rfl, Nat.le_of_ble_eq_true rfl, Nat.le_of_ble_eq_true rfl⟩ rfl (c_Mod_need (by decide)) ?_
            rintro v1 w9 ⟨hw9, ⟨hv1, hg1⟩ | ⟨hv1, hg1, hg2⟩ | ⟨hv1, hg1, hg2⟩⟩
            · skip
              rw [hv1, hw9]
              clear hv1 hw9 v1 w9
              dsimp only [Option.toList, List.cons_append, List.nil_append, List.append_nil]
              refine wp_istore_n (pc' := 26) rfl rfl (Nat.le_of_ble_eq_true rfl) rfl ?_
              dsimp only [lset, lset2, List.set, List.getElem?_cons_zero, List.getElem?_cons_succ]
              refine wp_iload_n (pc' := 27) rfl rfl rfl ?_
              refine wp_if_ge (pc' := 30) (pt := 32) rfl rfl rfl (fun q_191 => absurd q_191 (by decide)) (fun q_191 => ?_)
              refine wp_iload_n (pc' := 31) rfl rfl rfl ?_
              refine wp_ret rfl rfl rfl ?_
              first
              | (exfalso; omega)
              | exact ⟨rfl, rfl, hI⟩
            · skip
              rw [hv1, hw9]
              clear hv1 hw9 v1 w9
              dsimp only [Option.toList, List.cons_append, List.nil_append, List.append_nil]
              refine wp_istore_n (pc' := 26) rfl rfl (Nat.le_of_ble_eq_true rfl) rfl ?_
              dsimp only [lset, lset2, List.set, List.getElem?_cons_zero, List.getElem?_cons_succ]
              refine wp_iload_n (pc' := 27) rfl rfl rfl ?_
              refine wp_if_ge (pc' := 30) (pt := 32) rfl rfl rfl (fun q_192 => absurd q_192 (by decide)) (fun q_192 => ?_)
              refine wp_iload_n (pc' := 31) rfl rfl rfl ?_
              refine wp_ret rfl rfl rfl ?_
              first
              | (exfalso; omega)
              | exact ⟨rfl, rfl, hI⟩
            · skip
              rw [hv1, hw9]
              clear hv1 hw9 v1 w9
              dsimp only [Option.toList, List.cons_append, List.nil_append, List.append_nil]
              refine wp_istore_n (pc' := 26) rfl rfl (Nat.le_of_ble_eq_true rfl) rfl ?_
              dsimp only [lset, lset2, List.set, List.getElem?_cons_zero, List.getElem?_cons_succ]
              refine wp_iload_n (pc' := 27) rfl rfl rfl ?_
              refine wp_if_ge (pc' := 30) (pt := 32) rfl rfl rfl (fun q_193 => ?_) (fun q_193 => absurd (by decide) q_193)
              exfalso; omega
        · skip
          rw [hv1, hw9]
          clear hv1 hw9 v1 w9
          have hpr := hpre (by omega)
          have hn0 : w 3 2 ≠ 0 := by omega
          dsimp only [Option.toList, List.cons_append, List.nil_append, List.append_nil]
          refine wp_if_eq (pc' := 28) (pt := 31) rfl rfl rfl (fun q_194 => ?_) (fun q_194 => absurd (by decide) q_194)
          refine wp_aload_n (pc' := 32) rfl rfl rfl (by decide) ?_
          refine wp_getR (r' := 1) (ci := 9) (k0 := 0) (pc' := 35) rfl rfl (by decide) (by first | assumption | rfl) (hT.get 0 rfl) ?_
          refine wp_iload_n (pc' := 36) rfl rfl rfl ?_
          refine wp_aaload (r' := (53 + 2 * r)) (pc' := 37) rfl rfl (by first | assumption | rfl) rfl (by omega) (hst.2) ?_
          refine wp_iload_n (pc' := 38) rfl rfl rfl ?_
          refine wp_iconst (a := 0) (pc' := 39) rfl rfl rfl ?_
          refine wp_call (pc' := 42) rfl rfl rfl rfl rfl ⟨Nat.le_of_ble_eq_true rfl, Nat.le_of_ble_eq_true rfl, Nat.le_of_ble_eq_true rfl, Nat.le_of_ble_eq_true rfl, Nat.le_of_ble_eq_true rfl⟩ (recv_strip hs7 (by decide)) (c_Strip_renew (w := w) hst.1 (by omega)) ?_
          rintro v1 w1 ⟨hv1, hS1, hn1, hz1⟩
          rw [hv1]
          clear hv1 v1
          have hT1 := hT.row hb1.1 hb1.2 hS1
          have hT := hT1
          have hst1 := strip_row hT1 hb1.1 hb1.2
          have c1 : ∀ q : Int, q ≠ 53 + 2 * r → q ≠ 54 + 2 * r → w1 q = w q := fun q a b => hS1.cell q (by simp; omega) (by simp; omega)
          have f3 : w1 3 = w 3 := c1 3 (by omega) (by omega)
          have f4 : w1 4 = w 4 := c1 4 (by omega) (by omega)
          have f5 : w1 5 = w 5 := c1 5 (by omega) (by omega)
          have f6 : w1 6 = w 6 := c1 6 (by omega) (by omega)
          have f31 : w1 31 = w 31 := c1 31 (by omega) (by omega)
          have hl1 : LnOK w1 := by unfold LnOK; rw [f3, f4, f5, f6]; exact hpr.1
          have hRO1 : ROw w1 := by unfold ROw at hRO ⊢; rw [c1 (-3) (by omega) (by omega), c1 (-4) (by omega) (by omega), c1 (-5) (by omega) (by omega)]; exact hRO
          have hb4 : 0 ≤ w 3 4 ∧ w 3 4 ≤ 4 := by
            have hL := hI.lr hn0
            have h9 := hL.2.2.2.1
            omega
          dsimp only [Option.toList, List.cons_append, List.nil_append, List.append_nil]
          refine wp_aload_n (pc' := 43) rfl rfl rfl (by decide) ?_
          refine wp_getR (r' := 28) (ci := 9) (k0 := 8) (pc' := 46) rfl rfl (by decide) (by first | assumption | rfl) (hT.get 8 rfl) ?_
          refine wp_aload_n (pc' := 47) rfl rfl rfl (by decide) ?_
          refine wp_getR (r' := 3) (ci := 9) (k0 := 2) (pc' := 50) rfl rfl (by decide) (by first | assumption | rfl) (hT.get 2 rfl) ?_
          refine wp_iload_n (pc' := 51) rfl rfl rfl ?_
          refine wp_aload_n (pc' := 52) rfl rfl rfl (by decide) ?_
          refine wp_getR (r' := 1) (ci := 9) (k0 := 0) (pc' := 55) rfl rfl (by decide) (by first | assumption | rfl) (hT.get 0 rfl) ?_
          refine wp_iload_n (pc' := 56) rfl rfl rfl ?_
          refine wp_aaload (r' := (53 + 2 * r)) (pc' := 57) rfl rfl (by first | assumption | rfl) rfl (by omega) (hst1.2) ?_
          refine wp_getR (r' := 54 + 2 * r) (ci := 7) (k0 := 0) (pc' := 60) rfl rfl (by decide) (by first | assumption | rfl) (hst1.1.2.2.1) ?_
          refine wp_call (pc' := 63) rfl rfl rfl rfl rfl ⟨Nat.le_of_ble_eq_true rfl, Nat.le_of_ble_eq_true rfl, Nat.le_of_ble_eq_true rfl, Nat.le_of_ble_eq_true rfl, Nat.le_of_ble_eq_true rfl⟩ rfl (c_Plans_bestCourse (w := w1) hT1 hRO1 hl1 (by rw [f3]; exact hpr.2.2.1) (by rw [f3]; exact hb4) (by omega) hb1 (by rw [f31]; exact hIF.2.2.2.2)) ?_
          rintro v1 w2 ⟨hv1, hS2, hz2⟩
          rw [hv1]
          clear hv1 v1
          rw [f3, f4, f5, f6] at hz2 ⊢
          dsimp only [Option.toList, List.cons_append, List.nil_append, List.append_nil]
          refine wp_ret rfl rfl rfl ?_
          refine ⟨_, rfl, ?_, ?_⟩
          · rw [hS2 (-2) (by simp; omega), c1 (-2) (by omega) (by omega)]
          have c2 : ∀ q : Int, q ∉ RQL → q ≠ 53 + 2 * r → q ≠ 54 + 2 * r → w2 q = w q := fun q a b c => by
            rw [hS2 q (fun z => a (by simp [RQL] at z ⊢; omega)), c1 q b c]
          have nq : ∀ q : Int, 37 ≤ q → q ≤ 119 → q ∉ RQL := fun q a b => by simp [RQL]; omega
          have hT2 : Stc w2 := by
            have hTa : Stc w2 := (hT1.row hb1.1 hb1.2 (w' := fun q => if q ∈ RQL then w1 q else w2 q) (fun q k hq _ => by
              by_cases hm : q ∈ RQL
              · exact congrFun (if_pos hm) k
              · rw [show (fun q => if q ∈ RQL then w1 q else w2 q) q = w2 q from if_neg hm, hS2 q (fun z => hm (by simp [RQL] at z hq ⊢; omega))])).same (L := RQL) (fun q hq => by
                show w2 q = if q ∈ RQL then w1 q else w2 q
                rw [if_neg hq]) (by decide)
            exact hTa
          have hT := hT2
          have g1 : w2 100 = w 100 := c2 100 (nq _ (by omega) (by omega)) (by omega) (by omega)
          have g7 : w2 107 = w 107 := c2 107 (nq _ (by omega) (by omega)) (by omega) (by omega)
          have g8 : w2 108 = w 108 := c2 108 (nq _ (by omega) (by omega)) (by omega) (by omega)
          have g9 : w2 109 = w 109 := c2 109 (nq _ (by omega) (by omega)) (by omega) (by omega)
          have hm2 : MdOK w2 := by unfold MdOK; rw [g1, g7, g8, g9]; exact hpr.2.1
          have hx2 : Cel (w2 100 11) (w2 100 12) (w2 109 0) := by rw [g1, g9, b11, b12, m0]; exact hpr.2.2.1
          have hWW : ∀ x : Int, (fun x => sumI (fWorth (w 3 0) (w 4) (w 5) (w 6) x) (w 3 2)) x = (fun x => sumI (fWorth (w2 100 11) (w2 107) (fun i => w2 109 (3 + i)) (w2 108) x) (w2 100 10)) x := fun x => by
            rw [g1, g7, g8, g9, b11, b10]
            exact (worth_congr (fun i a b => hpr.2.2.2.2 i a b)).symm
          have hm9 := hm2.2
          have hWb2 : ∀ x : Int, Cel (w2 100 11) (w2 100 12) x → 0 ≤ (fun x => sumI (fWorth (w2 100 11) (w2 107) (fun i => w2 109 (3 + i)) (w2 108) x) (w2 100 10)) x ∧ (fun x => sumI (fWorth (w2 100 11) (w2 107) (fun i => w2 109 (3 + i)) (w2 108) x) (w2 100 10)) x ≤ 972 := fun x hx => worth_in hm2.1 hx (by omega) (by omega) (fun j a b => (hm9.2 j a b).2.1) (fun j a b => (hm9.2 j a b).2.2)
          have k10 : w2 100 10 = w 100 10 := by rw [g1]
          refine wp_aload_n (pc' := 1) rfl rfl rfl (by decide) ?_
          refine wp_iload_n (pc' := 2) rfl rfl rfl ?_
          refine wp_iconst (a := 0) (pc' := 3) rfl rfl rfl ?_
          refine wp_iconst (a := 5) (pc' := 4) rfl rfl rfl ?_
          refine wp_call (pc' := 7) rfl rfl rfl rfl rfl ⟨Nat.le_of_ble_eq_true rfl, Nat.le_of_ble_eq_true rfl, Nat.le_of_ble_eq_true rfl, Nat.le_of_ble_eq_true rfl, Nat.le_of_ble_eq_true rfl⟩ rfl (c_Mod_in) ?_
          rintro v1 w9 ⟨hw9, ⟨hv1, hin⟩ | ⟨hv1, hin⟩⟩
          · skip
            rw [hv1, hw9]
            clear hv1 hw9 v1 w9
            dsimp only [Option.toList, List.cons_append, List.nil_append, List.append_nil]
            refine wp_if_eq (pc' := 10) (pt := 21) rfl rfl rfl (fun q_245 => absurd q_245 (by decide)) (fun q_245 => ?_)
            refine wp_iload_n (pc' := 11) rfl rfl rfl ?_
            refine wp_call (pc' := 14) rfl rfl rfl rfl rfl ⟨Nat.le_of_ble_eq_true rfl, Nat.le_of_ble_eq_true rfl, Nat.le_of_ble_eq_true rfl, Nat.le_of_ble_eq_true rfl, Nat.le_of_ble_eq_true rfl⟩ rfl (c_Mod_isRow) ?_
            rintro v1 w9 ⟨hw9, ⟨hv1, hro⟩ | ⟨hv1, hro⟩⟩
            · skip
              rw [hv1, hw9]
              clear hv1 hw9 v1 w9
              dsimp only [Option.toList, List.cons_append, List.nil_append, List.append_nil]
              refine wp_if_eq (pc' := 17) (pt := 21) rfl rfl rfl (fun q_246 => absurd q_246 (by decide)) (fun q_246 => ?_)
              refine wp_iconst (a := 1) (pc' := 18) rfl rfl rfl ?_
              refine wp_goto (pc' := 22) rfl rfl ?_
              refine wp_call (pc' := 25) rfl rfl rfl rfl rfl ⟨Nat.le_of_ble_eq_true rfl, Nat.le_of_ble_eq_true rfl, Nat.le_of_ble_eq_true rfl, Nat.le_of_ble_eq_true rfl, Nat.le_of_ble_eq_true rfl⟩ rfl (c_Mod_need (by decide)) ?_
              rintro v1 w9 ⟨hw9, ⟨hv1, hg1⟩ | ⟨hv1, hg1, hg2⟩ | ⟨hv1, hg1, hg2⟩⟩
              · skip
                rw [hv1, hw9]
                clear hv1 hw9 v1 w9
                dsimp only [Option.toList, List.cons_append, List.nil_append, List.append_nil]
                refine wp_istore_n (pc' := 26) rfl rfl (Nat.le_of_ble_eq_true rfl) rfl ?_
                dsimp only [lset, lset2, List.set, List.getElem?_cons_zero, List.getElem?_cons_succ]
                refine wp_iload_n (pc' := 27) rfl rfl rfl ?_
                refine wp_if_ge (pc' := 30) (pt := 32) rfl rfl rfl (fun q_247 => absurd q_247 (by decide)) (fun q_247 => ?_)
                refine wp_iload_n (pc' := 31) rfl rfl rfl ?_
                refine wp_ret rfl rfl rfl ?_
                first
                | (exfalso; omega)
                | exact ⟨rfl, rfl, hI⟩
              · skip
                rw [hv1, hw9]
                clear hv1 hw9 v1 w9
                dsimp only [Option.toList, List.cons_append, List.nil_append, List.append_nil]
                refine wp_istore_n (pc' := 26) rfl rfl (Nat.le_of_ble_eq_true rfl) rfl ?_
                dsimp only [lset, lset2, List.set, List.getElem?_cons_zero, List.getElem?_cons_succ]
                refine wp_iload_n (pc' := 27) rfl rfl rfl ?_
                refine wp_if_ge (pc' := 30) (pt := 32) rfl rfl rfl (fun q_248 => absurd q_248 (by decide)) (fun q_248 => ?_)
                refine wp_iload_n (pc' := 31) rfl rfl rfl ?_
                refine wp_ret rfl rfl rfl ?_
                first
                | (exfalso; omega)
                | exact ⟨rfl, rfl, hI⟩
              · skip
                rw [hv1, hw9]
                clear hv1 hw9 v1 w9
                dsimp only [Option.toList, List.cons_append, List.nil_append, List.append_nil]
                refine wp_istore_n (pc' := 26) rfl rfl (Nat.le_of_ble_eq_true rfl) rfl ?_
                dsimp only [lset, lset2, List.set, List.getElem?_cons_zero, List.getElem?_cons_succ]
                refine wp_iload_n (pc' := 27) rfl rfl rfl ?_
                refine wp_if_ge (pc' := 30) (pt := 32) rfl rfl rfl (fun q_249 => ?_) (fun q_249 => absurd (by decide) q_249)
                refine wp_iconst (a := 1) (pc' := 33) rfl rfl rfl ?_
                refine wp_istore (pc' := 35) rfl rfl (Nat.le_of_ble_eq_true rfl) rfl ?_
                dsimp only [lset, lset2, List.set, List.getElem?_cons_zero, List.getElem?_cons_succ]
                refine wp_iconst (a := 0) (pc' := 36) rfl rfl rfl ?_
                refine wp_istore (pc' := 38) rfl rfl (Nat.le_of_ble_eq_true rfl) rfl ?_
                dsimp only [lset, lset2, List.set, List.getElem?_cons_zero, List.getElem?_cons_succ]
                refine l_codes (by omega) ?_ n.toNat 0 _ _ rfl (by omega) rfl
                refine wp_iconst (a := 0) (pc' := 57) rfl rfl rfl ?_
                refine wp_istore (pc' := 59) rfl rfl (Nat.le_of_ble_eq_true rfl) rfl ?_
                dsimp only [lset, lset2, List.set, List.getElem?_cons_zero, List.getElem?_cons_succ]
                refine wp_iconst (a := -1) (pc' := 60) rfl rfl rfl ?_
                refine wp_istore (pc' := 62) rfl rfl (Nat.le_of_ble_eq_true rfl) rfl ?_
                dsimp only [lset, lset2, List.set, List.getElem?_cons_zero, List.getElem?_cons_succ]
                refine wp_iconst (a := 0) (pc' := 63) rfl rfl rfl ?_
                refine wp_istore (pc' := 65) rfl rfl (Nat.le_of_ble_eq_true rfl) rfl ?_
                dsimp only [lset, lset2, List.set, List.getElem?_cons_zero, List.getElem?_cons_succ]
                refine l_scan (w := w2) hT2 hm2 hx2 (by omega) hWb2 (fun w3 x7 x8 hS3 => ?_) (5 ^ n.toNat) 0 _ _ _ w2 _ rfl (by omega) (Same.rf _ _) (fun _ => ⟨by decide, by have := bst_ge hm2.1 hWb2 n.toNat (w2 109 0) (w2 109 1) hx2; omega⟩) (fun h => absurd h (by omega))
                have hT3 := hT2.same hS3 (by decide)
                have hT := hT3
                have j1 : w3 100 = w2 100 := hS3 100 (by decide)
                have j7 : w3 107 = w2 107 := hS3 107 (by decide)
                have j8 : w3 108 = w2 108 := hS3 108 (by decide)
                have j9 : w3 109 = w2 109 := hS3 109 (by decide)
                have hm3 : MdOK w3 := hm2.same hS3 (by decide)
                have hx3 : Cel (w3 100 11) (w3 100 12) (w3 109 0) := by rw [j1, j9]; exact hx2
                have hWb3 := hWb2
                rw [← j1, ← j7, ← j8, ← j9] at hWb3
                have hpw : 5 ^ n.toNat ≤ 5 ^ 5 := Nat.pow_le_pow_right (by decide) (by omega)
                have hcl := @bcd_lt (w2 100 11) (w2 100 12) (fun x => sumI (fWorth (w2 100 11) (w2 107) (fun i => w2 109 (3 + i)) (w2 108) x) (w2 100 10)) n.toNat (w2 109 0) (w2 109 1)
                have a1 : w2 100 11 = w 3 0 := by rw [g1, b11]
                have a2 : w2 100 12 = w 3 1 := by rw [g1, b12]
                have a3 : w2 109 0 = w 3 3 := by rw [g9, m0]
                have a4 : w2 109 1 = w 3 4 := by rw [g9, m1]
                have hCC0 : ∀ F : Int → Int, (∀ x : Int, (fun x => sumI (fWorth (w 3 0) (w 4) (w 5) (w 6) x) (w 3 2)) x = F x) → bcd (w 3 0) (w 3 1) (fun x => sumI (fWorth (w 3 0) (w 4) (w 5) (w 6) x) (w 3 2)) n.toNat (w 3 3) (w 3 4) = bcd (w2 100 11) (w2 100 12) F n.toNat (w2 109 0) (w2 109 1) := fun F hF => by
                  rw [a1, a2, a3, a4]
                  exact bcd_congr hpr.1.1 (fun x _ => hF x) n.toNat (w 3 3) (w 3 4) hpr.2.2.1
                have hCC : bcd (w 3 0) (w 3 1) (fun x => sumI (fWorth (w 3 0) (w 4) (w 5) (w 6) x) (w 3 2)) n.toNat (w 3 3) (w 3 4) = (bcd (w2 100 11) (w2 100 12) (fun x => sumI (fWorth (w2 100 11) (w2 107) (fun i => w2 109 (3 + i)) (w2 108) x) (w2 100 10)) n.toNat (w2 109 0) (w2 109 1)) := hCC0 _ hWW
                have hBB0 : ∀ F : Int → Int, (∀ x : Int, (fun x => sumI (fWorth (w 3 0) (w 4) (w 5) (w 6) x) (w 3 2)) x = F x) → bst (w 3 0) (w 3 1) (fun x => sumI (fWorth (w 3 0) (w 4) (w 5) (w 6) x) (w 3 2)) n.toNat (w 3 3) (w 3 4) = bst (w2 100 11) (w2 100 12) F n.toNat (w2 109 0) (w2 109 1) := fun F hF => by
                  rw [a1, a2, a3, a4]
                  exact bst_congr hpr.1.1 (fun x _ => hF x) n.toNat (w 3 3) (w 3 4) hpr.2.2.1
                have hBB : bst (w 3 0) (w 3 1) (fun x => sumI (fWorth (w 3 0) (w 4) (w 5) (w 6) x) (w 3 2)) n.toNat (w 3 3) (w 3 4) = (bst (w2 100 11) (w2 100 12) (fun x => sumI (fWorth (w2 100 11) (w2 107) (fun i => w2 109 (3 + i)) (w2 108) x) (w2 100 10)) n.toNat (w2 109 0) (w2 109 1)) := hBB0 _ hWW
                refine wp_aload_n (pc' := 120) rfl rfl rfl (by decide) ?_
                refine wp_iload (pc' := 122) rfl rfl rfl ?_
                refine wp_iload_n (pc' := 123) rfl rfl rfl ?_
                refine wp_call (pc' := 126) rfl rfl rfl rfl rfl ⟨Nat.le_of_ble_eq_true rfl, Nat.le_of_ble_eq_true rfl, Nat.le_of_ble_eq_true rfl, Nat.le_of_ble_eq_true rfl, Nat.le_of_ble_eq_true rfl⟩ rfl (c_Mod_gainedBy (m := (bcd (w2 100 11) (w2 100 12) (fun x => sumI (fWorth (w2 100 11) (w2 107) (fun i => w2 109 (3 + i)) (w2 108) x) (w2 100 10)) n.toNat (w2 109 0) (w2 109 1))) hT3 hm3 hx3 (by omega) (by omega) hWb3 rfl) ?_
                rintro v1 w4 ⟨hv1, hS4, hz4⟩
                rw [hv1]
                clear hv1 v1
                have hT4 := hT3.same hS4 (by decide)
                have hT := hT4
                dsimp only [Option.toList, List.cons_append, List.nil_append, List.append_nil]
                refine wp_pop (pc' := 127) rfl rfl ?_
                refine wp_aload_n (pc' := 128) rfl rfl rfl (by decide) ?_
                refine wp_getR (r' := 102) (ci := 10) (k0 := 5) (pc' := 131) rfl rfl (by decide) (by first | assumption | rfl) (hT.get 100 rfl) ?_
                refine wp_iload_n (pc' := 132) rfl rfl rfl ?_
                refine wp_iload_n (pc' := 133) rfl rfl rfl ?_
                refine wp_iastore (pc' := 134) rfl rfl (by first | assumption | rfl) (by omega) ?_
                refine wp_iconst (a := 0) (pc' := 135) rfl rfl rfl ?_
                refine wp_istore (pc' := 137) rfl rfl (Nat.le_of_ble_eq_true rfl) rfl ?_
                dsimp only [lset, lset2, List.set, List.getElem?_cons_zero, List.getElem?_cons_succ]
                refine (l_Mcrow (w := up w4 102 r n) (hT4.putA (by decide)) (by omega) hb1 n.toNat 0 _ (by decide) (by omega) (Same.rf _ _) (fun i a b => absurd b (by omega)) (fun z hz => rfl)).mono (fun v w5 hq => ?_)
                obtain ⟨hv5, hS5, hz5, ho5⟩ := hq
                have e5 : ∀ q : Int, q ≠ 103 → q ≠ 102 → q ≠ 120 → w5 q = w2 q := fun q a b c => by
                  rw [hS5 q (by simpa using a), up_ne b, hS4 q (by simpa using c), hS3 q (by simpa using c)]
                have e102 : w5 102 = up w4 102 r n 102 := hS5 102 (by decide)
                have e42 : w4 102 = w2 102 := by rw [hS4 102 (by decide), hS3 102 (by decide)]
                have e43 : w4 103 = w2 103 := by rw [hS4 103 (by decide), hS3 103 (by decide)]
                refine ⟨by rw [hv5, hBB], e5 (-2) (by decide) (by decide) (by decide), hI.rowsq hb1.1 hb1.2 (fun q k a b c e f => ?_) ⟨?_, ?_, ?_⟩ ?_⟩
                · rw [e5 q e c (fun z => a (by rw [z]; decide)), hS2 q (fun z => a (by simp [RQL] at z ⊢; omega))]
                  exact hS1 q k (by simpa using b) (by simp; omega)
                · rw [e5 _ (by omega) (by omega) (by omega), e102, up_eq, hS2 _ (by simp; omega)]
                  exact hn1
                · rw [e102, up_eq]; omega
                · intro j a b
                  rw [e102, up_eq] at b
                  have hj := hz5 j a b
                  rw [up_ne (by decide), hz4 j a b] at hj
                  rw [e5 _ (by omega) (by omega) (by omega), hz2 j a b, hj, hCC]
                  have h7 := dg_in (bcd (w2 100 11) (w2 100 12) (fun x => sumI (fWorth (w2 100 11) (w2 107) (fun i => w2 109 (3 + i)) (w2 108) x) (w2 100 10)) n.toNat (w2 109 0) (w2 109 1)) (n - 1 - j).toNat
                  exact ⟨rfl, by unfold I32; omega⟩
                · intro q a b hq
                  refine ⟨by rw [e102, up_at hq, e42, c2 102 (nq _ (by omega) (by omega)) (by omega) (by omega)], fun j x y => ?_⟩
                  rw [ho5 _ (by omega), up_ne (by decide), e43, c2 103 (nq _ (by omega) (by omega)) (by omega) (by omega)]
            · skip
              rw [hv1, hw9]
              clear hv1 hw9 v1 w9
              dsimp only [Option.toList, List.cons_append, List.nil_append, List.append_nil]
              refine wp_if_eq (pc' := 17) (pt := 21) rfl rfl rfl (fun q_290 => ?_) (fun q_290 => absurd (by decide) q_290)
              refine wp_iconst (a := 0) (pc' := 22) rfl rfl rfl ?_
              refine wp_call (pc' := 25) rfl rfl rfl rfl rfl ⟨Nat.le_of_ble_eq_true rfl, Nat.le_of_ble_eq_true rfl, Nat.le_of_ble_eq_true rfl, Nat.le_of_ble_eq_true rfl, Nat.le_of_ble_eq_true rfl⟩ rfl (c_Mod_need (by decide)) ?_
              rintro v1 w9 ⟨hw9, ⟨hv1, hg1⟩ | ⟨hv1, hg1, hg2⟩ | ⟨hv1, hg1, hg2⟩⟩
              · skip
                rw [hv1, hw9]
                clear hv1 hw9 v1 w9
                dsimp only [Option.toList, List.cons_append, List.nil_append, List.append_nil]
                refine wp_istore_n (pc' := 26) rfl rfl (Nat.le_of_ble_eq_true rfl) rfl ?_
                dsimp only [lset, lset2, List.set, List.getElem?_cons_zero, List.getElem?_cons_succ]
                refine wp_iload_n (pc' := 27) rfl rfl rfl ?_
                refine wp_if_ge (pc' := 30) (pt := 32) rfl rfl rfl (fun q_291 => absurd q_291 (by decide)) (fun q_291 => ?_)
                refine wp_iload_n (pc' := 31) rfl rfl rfl ?_
                refine wp_ret rfl rfl rfl ?_
                first
                | (exfalso; omega)
                | exact ⟨rfl, rfl, hI⟩
              · skip
                rw [hv1, hw9]
                clear hv1 hw9 v1 w9
                dsimp only [Option.toList, List.cons_append, List.nil_append, List.append_nil]
                refine wp_istore_n (pc' := 26) rfl rfl (Nat.le_of_ble_eq_true rfl) rfl ?_
                dsimp only [lset, lset2, List.set, List.getElem?_cons_zero, List.getElem?_cons_succ]
                refine wp_iload_n (pc' := 27) rfl rfl rfl ?_
                refine wp_if_ge (pc' := 30) (pt := 32) rfl rfl rfl (fun q_292 => absurd q_292 (by decide)) (fun q_292 => ?_)
                refine wp_iload_n (pc' := 31) rfl rfl rfl ?_
                refine wp_ret rfl rfl rfl ?_
                first
                | (exfalso; omega)
                | exact ⟨rfl, rfl, hI⟩
              · skip
                rw [hv1, hw9]
                clear hv1 hw9 v1 w9
                dsimp only [Option.toList, List.cons_append, List.nil_append, List.append_nil]
                refine wp_istore_n (pc' := 26) rfl rfl (Nat.le_of_ble_eq_true rfl) rfl ?_
                dsimp only [lset, lset2, List.set, List.getElem?_cons_zero, List.getElem?_cons_succ]
                refine wp_iload_n (pc' := 27) rfl rfl rfl ?_
                refine wp_if_ge (pc' := 30) (pt := 32) rfl rfl rfl (fun q_293 => ?_) (fun q_293 => absurd (by decide) q_293)
                refine wp_iconst (a := 1) (pc' := 33) rfl rfl rfl ?_
                refine wp_istore (pc' := 35) rfl rfl (Nat.le_of_ble_eq_true rfl) rfl ?_
                dsimp only [lset, lset2, List.set, List.getElem?_cons_zero, List.getElem?_cons_succ]
                refine wp_iconst (a := 0) (pc' := 36) rfl rfl rfl ?_
                refine wp_istore (pc' := 38) rfl rfl (Nat.le_of_ble_eq_true rfl) rfl ?_
                dsimp only [lset, lset2, List.set, List.getElem?_cons_zero, List.getElem?_cons_succ]
                refine l_codes (by omega) ?_ n.toNat 0 _ _ rfl (by omega) rfl
                refine wp_iconst (a := 0) (pc' := 57) rfl rfl rfl ?_
                refine wp_istore (pc' := 59) rfl rfl (Nat.le_of_ble_eq_true rfl) rfl ?_
                dsimp only [lset, lset2, List.set, List.getElem?_cons_zero, List.getElem?_cons_succ]
                refine wp_iconst (a := -1) (pc' := 60) rfl rfl rfl ?_
                refine wp_istore (pc' := 62) rfl rfl (Nat.le_of_ble_eq_true rfl) rfl ?_
                dsimp only [lset, lset2, List.set, List.getElem?_cons_zero, List.getElem?_cons_succ]
                refine wp_iconst (a := 0) (pc' := 63) rfl rfl rfl ?_
                refine wp_istore (pc' := 65) rfl rfl (Nat.le_of_ble_eq_true rfl) rfl ?_
                dsimp only [lset, lset2, List.set, List.getElem?_cons_zero, List.getElem?_cons_succ]
                refine l_scan (w := w2) hT2 hm2 hx2 (by omega) hWb2 (fun w3 x7 x8 hS3 => ?_) (5 ^ n.toNat) 0 _ _ _ w2 _ rfl (by omega) (Same.rf _ _) (fun _ => ⟨by decide, by have := bst_ge hm2.1 hWb2 n.toNat (w2 109 0) (w2 109 1) hx2; omega⟩) (fun h => absurd h (by omega))
                have hT3 := hT2.same hS3 (by decide)
                have hT := hT3
                have j1 : w3 100 = w2 100 := hS3 100 (by decide)
                have j7 : w3 107 = w2 107 := hS3 107 (by decide)
                have j8 : w3 108 = w2 108 := hS3 108 (by decide)
                have j9 : w3 109 = w2 109 := hS3 109 (by decide)
                have hm3 : MdOK w3 := hm2.same hS3 (by decide)
                have hx3 : Cel (w3 100 11) (w3 100 12) (w3 109 0) := by rw [j1, j9]; exact hx2
                have hWb3 := hWb2
                rw [← j1, ← j7, ← j8, ← j9] at hWb3
                have hpw : 5 ^ n.toNat ≤ 5 ^ 5 := Nat.pow_le_pow_right (by decide) (by omega)
                have hcl := @bcd_lt (w2 100 11) (w2 100 12) (fun x => sumI (fWorth (w2 100 11) (w2 107) (fun i => w2 109 (3 + i)) (w2 108) x) (w2 100 10)) n.toNat (w2 109 0) (w2 109 1)
                have a1 : w2 100 11 = w 3 0 := by rw [g1, b11]
                have a2 : w2 100 12 = w 3 1 := by rw [g1, b12]
                have a3 : w2 109 0 = w 3 3 := by rw [g9, m0]
                have a4 : w2 109 1 = w 3 4 := by rw [g9, m1]
                have hCC0 : ∀ F : Int → Int, (∀ x : Int, (fun x => sumI (fWorth (w 3 0) (w 4) (w 5) (w 6) x) (w 3 2)) x = F x) → bcd (w 3 0) (w 3 1) (fun x => sumI (fWorth (w 3 0) (w 4) (w 5) (w 6) x) (w 3 2)) n.toNat (w 3 3) (w 3 4) = bcd (w2 100 11) (w2 100 12) F n.toNat (w2 109 0) (w2 109 1) := fun F hF => by
                  rw [a1, a2, a3, a4]
                  exact bcd_congr hpr.1.1 (fun x _ => hF x) n.toNat (w 3 3) (w 3 4) hpr.2.2.1
                have hCC : bcd (w 3 0) (w 3 1) (fun x => sumI (fWorth (w 3 0) (w 4) (w 5) (w 6) x) (w 3 2)) n.toNat (w 3 3) (w 3 4) = (bcd (w2 100 11) (w2 100 12) (fun x => sumI (fWorth (w2 100 11) (w2 107) (fun i => w2 109 (3 + i)) (w2 108) x) (w2 100 10)) n.toNat (w2 109 0) (w2 109 1)) := hCC0 _ hWW
                have hBB0 : ∀ F : Int → Int, (∀ x : Int, (fun x => sumI (fWorth (w 3 0) (w 4) (w 5) (w 6) x) (w 3 2)) x = F x) → bst (w 3 0) (w 3 1) (fun x => sumI (fWorth (w 3 0) (w 4) (w 5) (w 6) x) (w 3 2)) n.toNat (w 3 3) (w 3 4) = bst (w2 100 11) (w2 100 12) F n.toNat (w2 109 0) (w2 109 1) := fun F hF => by
                  rw [a1, a2, a3, a4]
                  exact bst_congr hpr.1.1 (fun x _ => hF x) n.toNat (w 3 3) (w 3 4) hpr.2.2.1
                have hBB : bst (w 3 0) (w 3 1) (fun x => sumI (fWorth (w 3 0) (w 4) (w 5) (w 6) x) (w 3 2)) n.toNat (w 3 3) (w 3 4) = (bst (w2 100 11) (w2 100 12) (fun x => sumI (fWorth (w2 100 11) (w2 107) (fun i => w2 109 (3 + i)) (w2 108) x) (w2 100 10)) n.toNat (w2 109 0) (w2 109 1)) := hBB0 _ hWW
                refine wp_aload_n (pc' := 120) rfl rfl rfl (by decide) ?_
                refine wp_iload (pc' := 122) rfl rfl rfl ?_
                refine wp_iload_n (pc' := 123) rfl rfl rfl ?_
                refine wp_call (pc' := 126) rfl rfl rfl rfl rfl ⟨Nat.le_of_ble_eq_true rfl, Nat.le_of_ble_eq_true rfl, Nat.le_of_ble_eq_true rfl, Nat.le_of_ble_eq_true rfl, Nat.le_of_ble_eq_true rfl⟩ rfl (c_Mod_gainedBy (m := (bcd (w2 100 11) (w2 100 12) (fun x => sumI (fWorth (w2 100 11) (w2 107) (fun i => w2 109 (3 + i)) (w2 108) x) (w2 100 10)) n.toNat (w2 109 0) (w2 109 1))) hT3 hm3 hx3 (by omega) (by omega) hWb3 rfl) ?_
                rintro v1 w4 ⟨hv1, hS4, hz4⟩
                rw [hv1]
                clear hv1 v1
                have hT4 := hT3.same hS4 (by decide)
                have hT := hT4
                dsimp only [Option.toList, List.cons_append, List.nil_append, List.append_nil]
                refine wp_pop (pc' := 127) rfl rfl ?_
                refine wp_aload_n (pc' := 128) rfl rfl rfl (by decide) ?_
                refine wp_getR (r' := 102) (ci := 10) (k0 := 5) (pc' := 131) rfl rfl (by decide) (by first | assumption | rfl) (hT.get 100 rfl) ?_
                refine wp_iload_n (pc' := 132) rfl rfl rfl ?_
                refine wp_iload_n (pc' := 133) rfl rfl rfl ?_
                refine wp_iastore (pc' := 134) rfl rfl (by first | assumption | rfl) (by omega) ?_
                refine wp_iconst (a := 0) (pc' := 135) rfl rfl rfl ?_
                refine wp_istore (pc' := 137) rfl rfl (Nat.le_of_ble_eq_true rfl) rfl ?_
                dsimp only [lset, lset2, List.set, List.getElem?_cons_zero, List.getElem?_cons_succ]
                refine (l_Mcrow (w := up w4 102 r n) (hT4.putA (by decide)) (by omega) hb1 n.toNat 0 _ (by decide) (by omega) (Same.rf _ _) (fun i a b => absurd b (by omega)) (fun z hz => rfl)).mono (fun v w5 hq => ?_)
                obtain ⟨hv5, hS5, hz5, ho5⟩ := hq
                have e5 : ∀ q : Int, q ≠ 103 → q ≠ 102 → q ≠ 120 → w5 q = w2 q := fun q a b c => by
                  rw [hS5 q (by simpa using a), up_ne b, hS4 q (by simpa using c), hS3 q (by simpa using c)]
                have e102 : w5 102 = up w4 102 r n 102 := hS5 102 (by decide)
                have e42 : w4 102 = w2 102 := by rw [hS4 102 (by decide), hS3 102 (by decide)]
                have e43 : w4 103 = w2 103 := by rw [hS4 103 (by decide), hS3 103 (by decide)]
                refine ⟨by rw [hv5, hBB], e5 (-2) (by decide) (by decide) (by decide), hI.rowsq hb1.1 hb1.2 (fun q k a b c e f => ?_) ⟨?_, ?_, ?_⟩ ?_⟩
                · rw [e5 q e c (fun z => a (by rw [z]; decide)), hS2 q (fun z => a (by simp [RQL] at z ⊢; omega))]
                  exact hS1 q k (by simpa using b) (by simp; omega)
                · rw [e5 _ (by omega) (by omega) (by omega), e102, up_eq, hS2 _ (by simp; omega)]
                  exact hn1
                · rw [e102, up_eq]; omega
                · intro j a b
                  rw [e102, up_eq] at b
                  have hj := hz5 j a b
                  rw [up_ne (by decide), hz4 j a b] at hj
                  rw [e5 _ (by omega) (by omega) (by omega), hz2 j a b, hj, hCC]
                  have h7 := dg_in (bcd (w2 100 11) (w2 100 12) (fun x => sumI (fWorth (w2 100 11) (w2 107) (fun i => w2 109 (3 + i)) (w2 108) x) (w2 100 10)) n.toNat (w2 109 0) (w2 109 1)) (n - 1 - j).toNat
                  exact ⟨rfl, by unfold I32; omega⟩
                · intro q a b hq
                  refine ⟨by rw [e102, up_at hq, e42, c2 102 (nq _ (by omega) (by omega)) (by omega) (by omega)], fun j x y => ?_⟩
                  rw [ho5 _ (by omega), up_ne (by decide), e43, c2 103 (nq _ (by omega) (by omega)) (by omega) (by omega)]
          · skip
            rw [hv1, hw9]
            clear hv1 hw9 v1 w9
            dsimp only [Option.toList, List.cons_append, List.nil_append, List.append_nil]
            refine wp_if_eq (pc' := 10) (pt := 21) rfl rfl rfl (fun q_334 => ?_) (fun q_334 => absurd (by decide) q_334)
            refine wp_iconst (a := 0) (pc' := 22) rfl rfl rfl ?_
            refine wp_call (pc' := 25) rfl rfl rfl rfl rfl ⟨Nat.le_of_ble_eq_true rfl, Nat.le_of_ble_eq_true rfl, Nat.le_of_ble_eq_true rfl, Nat.le_of_ble_eq_true rfl, Nat.le_of_ble_eq_true rfl⟩ rfl (c_Mod_need (by decide)) ?_
            rintro v1 w9 ⟨hw9, ⟨hv1, hg1⟩ | ⟨hv1, hg1, hg2⟩ | ⟨hv1, hg1, hg2⟩⟩
            · skip
              rw [hv1, hw9]
              clear hv1 hw9 v1 w9
              dsimp only [Option.toList, List.cons_append, List.nil_append, List.append_nil]
              refine wp_istore_n (pc' := 26) rfl rfl (Nat.le_of_ble_eq_true rfl) rfl ?_
              dsimp only [lset, lset2, List.set, List.getElem?_cons_zero, List.getElem?_cons_succ]
              refine wp_iload_n (pc' := 27) rfl rfl rfl ?_
              refine wp_if_ge (pc' := 30) (pt := 32) rfl rfl rfl (fun q_335 => absurd q_335 (by decide)) (fun q_335 => ?_)
              refine wp_iload_n (pc' := 31) rfl rfl rfl ?_
              refine wp_ret rfl rfl rfl ?_
              first
              | (exfalso; omega)
              | exact ⟨rfl, rfl, hI⟩
            · skip
              rw [hv1, hw9]
              clear hv1 hw9 v1 w9
              dsimp only [Option.toList, List.cons_append, List.nil_append, List.append_nil]
              refine wp_istore_n (pc' := 26) rfl rfl (Nat.le_of_ble_eq_true rfl) rfl ?_
              dsimp only [lset, lset2, List.set, List.getElem?_cons_zero, List.getElem?_cons_succ]
              refine wp_iload_n (pc' := 27) rfl rfl rfl ?_
              refine wp_if_ge (pc' := 30) (pt := 32) rfl rfl rfl (fun q_336 => absurd q_336 (by decide)) (fun q_336 => ?_)
              refine wp_iload_n (pc' := 31) rfl rfl rfl ?_
              refine wp_ret rfl rfl rfl ?_
              first
              | (exfalso; omega)
              | exact ⟨rfl, rfl, hI⟩
            · skip
              rw [hv1, hw9]
              clear hv1 hw9 v1 w9
              dsimp only [Option.toList, List.cons_append, List.nil_append, List.append_nil]
              refine wp_istore_n (pc' := 26) rfl rfl (Nat.le_of_ble_eq_true rfl) rfl ?_
              dsimp only [lset, lset2, List.set, List.getElem?_cons_zero, List.getElem?_cons_succ]
              refine wp_iload_n (pc' := 27) rfl rfl rfl ?_
              refine wp_if_ge (pc' := 30) (pt := 32) rfl rfl rfl (fun q_337 => ?_) (fun q_337 => absurd (by decide) q_337)
              refine wp_iconst (a := 1) (pc' := 33) rfl rfl rfl ?_
              refine wp_istore (pc' := 35) rfl rfl (Nat.le_of_ble_eq_true rfl) rfl ?_
              dsimp only [lset, lset2, List.set, List.getElem?_cons_zero, List.getElem?_cons_succ]
              refine wp_iconst (a := 0) (pc' := 36) rfl rfl rfl ?_
              refine wp_istore (pc' := 38) rfl rfl (Nat.le_of_ble_eq_true rfl) rfl ?_
              dsimp only [lset, lset2, List.set, List.getElem?_cons_zero, List.getElem?_cons_succ]
              refine l_codes (by omega) ?_ n.toNat 0 _ _ rfl (by omega) rfl
              refine wp_iconst (a := 0) (pc' := 57) rfl rfl rfl ?_
              refine wp_istore (pc' := 59) rfl rfl (Nat.le_of_ble_eq_true rfl) rfl ?_
              dsimp only [lset, lset2, List.set, List.getElem?_cons_zero, List.getElem?_cons_succ]
              refine wp_iconst (a := -1) (pc' := 60) rfl rfl rfl ?_
              refine wp_istore (pc' := 62) rfl rfl (Nat.le_of_ble_eq_true rfl) rfl ?_
              dsimp only [lset, lset2, List.set, List.getElem?_cons_zero, List.getElem?_cons_succ]
              refine wp_iconst (a := 0) (pc' := 63) rfl rfl rfl ?_
              refine wp_istore (pc' := 65) rfl rfl (Nat.le_of_ble_eq_true rfl) rfl ?_
              dsimp only [lset, lset2, List.set, List.getElem?_cons_zero, List.getElem?_cons_succ]
              refine l_scan (w := w2) hT2 hm2 hx2 (by omega) hWb2 (fun w3 x7 x8 hS3 => ?_) (5 ^ n.toNat) 0 _ _ _ w2 _ rfl (by omega) (Same.rf _ _) (fun _ => ⟨by decide, by have := bst_ge hm2.1 hWb2 n.toNat (w2 109 0) (w2 109 1) hx2; omega⟩) (fun h => absurd h (by omega))
              have hT3 := hT2.same hS3 (by decide)
              have hT := hT3
              have j1 : w3 100 = w2 100 := hS3 100 (by decide)
              have j7 : w3 107 = w2 107 := hS3 107 (by decide)
              have j8 : w3 108 = w2 108 := hS3 108 (by decide)
              have j9 : w3 109 = w2 109 := hS3 109 (by decide)
              have hm3 : MdOK w3 := hm2.same hS3 (by decide)
              have hx3 : Cel (w3 100 11) (w3 100 12) (w3 109 0) := by rw [j1, j9]; exact hx2
              have hWb3 := hWb2
              rw [← j1, ← j7, ← j8, ← j9] at hWb3
              have hpw : 5 ^ n.toNat ≤ 5 ^ 5 := Nat.pow_le_pow_right (by decide) (by omega)
              have hcl := @bcd_lt (w2 100 11) (w2 100 12) (fun x => sumI (fWorth (w2 100 11) (w2 107) (fun i => w2 109 (3 + i)) (w2 108) x) (w2 100 10)) n.toNat (w2 109 0) (w2 109 1)
              have a1 : w2 100 11 = w 3 0 := by rw [g1, b11]
              have a2 : w2 100 12 = w 3 1 := by rw [g1, b12]
              have a3 : w2 109 0 = w 3 3 := by rw [g9, m0]
              have a4 : w2 109 1 = w 3 4 := by rw [g9, m1]
              have hCC0 : ∀ F : Int → Int, (∀ x : Int, (fun x => sumI (fWorth (w 3 0) (w 4) (w 5) (w 6) x) (w 3 2)) x = F x) → bcd (w 3 0) (w 3 1) (fun x => sumI (fWorth (w 3 0) (w 4) (w 5) (w 6) x) (w 3 2)) n.toNat (w 3 3) (w 3 4) = bcd (w2 100 11) (w2 100 12) F n.toNat (w2 109 0) (w2 109 1) := fun F hF => by
                rw [a1, a2, a3, a4]
                exact bcd_congr hpr.1.1 (fun x _ => hF x) n.toNat (w 3 3) (w 3 4) hpr.2.2.1
              have hCC : bcd (w 3 0) (w 3 1) (fun x => sumI (fWorth (w 3 0) (w 4) (w 5) (w 6) x) (w 3 2)) n.toNat (w 3 3) (w 3 4) = (bcd (w2 100 11) (w2 100 12) (fun x => sumI (fWorth (w2 100 11) (w2 107) (fun i => w2 109 (3 + i)) (w2 108) x) (w2 100 10)) n.toNat (w2 109 0) (w2 109 1)) := hCC0 _ hWW
              have hBB0 : ∀ F : Int → Int, (∀ x : Int, (fun x => sumI (fWorth (w 3 0) (w 4) (w 5) (w 6) x) (w 3 2)) x = F x) → bst (w 3 0) (w 3 1) (fun x => sumI (fWorth (w 3 0) (w 4) (w 5) (w 6) x) (w 3 2)) n.toNat (w 3 3) (w 3 4) = bst (w2 100 11) (w2 100 12) F n.toNat (w2 109 0) (w2 109 1) := fun F hF => by
                rw [a1, a2, a3, a4]
                exact bst_congr hpr.1.1 (fun x _ => hF x) n.toNat (w 3 3) (w 3 4) hpr.2.2.1
              have hBB : bst (w 3 0) (w 3 1) (fun x => sumI (fWorth (w 3 0) (w 4) (w 5) (w 6) x) (w 3 2)) n.toNat (w 3 3) (w 3 4) = (bst (w2 100 11) (w2 100 12) (fun x => sumI (fWorth (w2 100 11) (w2 107) (fun i => w2 109 (3 + i)) (w2 108) x) (w2 100 10)) n.toNat (w2 109 0) (w2 109 1)) := hBB0 _ hWW
              refine wp_aload_n (pc' := 120) rfl rfl rfl (by decide) ?_
              refine wp_iload (pc' := 122) rfl rfl rfl ?_
              refine wp_iload_n (pc' := 123) rfl rfl rfl ?_
              refine wp_call (pc' := 126) rfl rfl rfl rfl rfl ⟨Nat.le_of_ble_eq_true rfl, Nat.le_of_ble_eq_true rfl, Nat.le_of_ble_eq_true rfl, Nat.le_of_ble_eq_true rfl, Nat.le_of_ble_eq_true rfl⟩ rfl (c_Mod_gainedBy (m := (bcd (w2 100 11) (w2 100 12) (fun x => sumI (fWorth (w2 100 11) (w2 107) (fun i => w2 109 (3 + i)) (w2 108) x) (w2 100 10)) n.toNat (w2 109 0) (w2 109 1))) hT3 hm3 hx3 (by omega) (by omega) hWb3 rfl) ?_
              rintro v1 w4 ⟨hv1, hS4, hz4⟩
              rw [hv1]
              clear hv1 v1
              have hT4 := hT3.same hS4 (by decide)
              have hT := hT4
              dsimp only [Option.toList, List.cons_append, List.nil_append, List.append_nil]
              refine wp_pop (pc' := 127) rfl rfl ?_
              refine wp_aload_n (pc' := 128) rfl rfl rfl (by decide) ?_
              refine wp_getR (r' := 102) (ci := 10) (k0 := 5) (pc' := 131) rfl rfl (by decide) (by first | assumption | rfl) (hT.get 100 rfl) ?_
              refine wp_iload_n (pc' := 132) rfl rfl rfl ?_
              refine wp_iload_n (pc' := 133) rfl rfl rfl ?_
              refine wp_iastore (pc' := 134) rfl rfl (by first | assumption | rfl) (by omega) ?_
              refine wp_iconst (a := 0) (pc' := 135) rfl rfl rfl ?_
              refine wp_istore (pc' := 137) rfl rfl (Nat.le_of_ble_eq_true rfl) rfl ?_
              dsimp only [lset, lset2, List.set, List.getElem?_cons_zero, List.getElem?_cons_succ]
              refine (l_Mcrow (w := up w4 102 r n) (hT4.putA (by decide)) (by omega) hb1 n.toNat 0 _ (by decide) (by omega) (Same.rf _ _) (fun i a b => absurd b (by omega)) (fun z hz => rfl)).mono (fun v w5 hq => ?_)
              obtain ⟨hv5, hS5, hz5, ho5⟩ := hq
              have e5 : ∀ q : Int, q ≠ 103 → q ≠ 102 → q ≠ 120 → w5 q = w2 q := fun q a b c => by
                rw [hS5 q (by simpa using a), up_ne b, hS4 q (by simpa using c), hS3 q (by simpa using c)]
              have e102 : w5 102 = up w4 102 r n 102 := hS5 102 (by decide)
              have e42 : w4 102 = w2 102 := by rw [hS4 102 (by decide), hS3 102 (by decide)]
              have e43 : w4 103 = w2 103 := by rw [hS4 103 (by decide), hS3 103 (by decide)]
              refine ⟨by rw [hv5, hBB], e5 (-2) (by decide) (by decide) (by decide), hI.rowsq hb1.1 hb1.2 (fun q k a b c e f => ?_) ⟨?_, ?_, ?_⟩ ?_⟩
              · rw [e5 q e c (fun z => a (by rw [z]; decide)), hS2 q (fun z => a (by simp [RQL] at z ⊢; omega))]
                exact hS1 q k (by simpa using b) (by simp; omega)
              · rw [e5 _ (by omega) (by omega) (by omega), e102, up_eq, hS2 _ (by simp; omega)]
                exact hn1
              · rw [e102, up_eq]; omega
              · intro j a b
                rw [e102, up_eq] at b
                have hj := hz5 j a b
                rw [up_ne (by decide), hz4 j a b] at hj
                rw [e5 _ (by omega) (by omega) (by omega), hz2 j a b, hj, hCC]
                have h7 := dg_in (bcd (w2 100 11) (w2 100 12) (fun x => sumI (fWorth (w2 100 11) (w2 107) (fun i => w2 109 (3 + i)) (w2 108) x) (w2 100 10)) n.toNat (w2 109 0) (w2 109 1)) (n - 1 - j).toNat
                exact ⟨rfl, by unfold I32; omega⟩
              · intro q a b hq
                refine ⟨by rw [e102, up_at hq, e42, c2 102 (nq _ (by omega) (by omega)) (by omega) (by omega)], fun j x y => ?_⟩
                rw [ho5 _ (by omega), up_ne (by decide), e43, c2 103 (nq _ (by omega) (by omega)) (by omega) (by omega)]
      · skip
        rw [hv1, hw9]
        clear hv1 hw9 v1 w9
        dsimp only [Option.toList, List.cons_append, List.nil_append, List.append_nil]
        refine wp_if_ne (pc' := 16) (pt := 18) rfl rfl rfl (fun q_378 => absurd q_378 (by decide)) (fun q_378 => ?_)
        refine wp_iconst (a := -1) (pc' := 17) rfl rfl rfl ?_
        refine wp_ret rfl rfl rfl ?_
        refine ⟨_, rfl, ?_, ?_⟩
        · rfl
        refine wp_aload_n (pc' := 1) rfl rfl rfl (by decide) ?_
        refine wp_iload_n (pc' := 2) rfl rfl rfl ?_
        refine wp_iconst (a := 0) (pc' := 3) rfl rfl rfl ?_
        refine wp_iconst (a := 5) (pc' := 4) rfl rfl rfl ?_
        refine wp_call (pc' := 7) rfl rfl rfl rfl rfl ⟨Nat.le_of_ble_eq_true rfl, Nat.le_of_ble_eq_true rfl, Nat.le_of_ble_eq_true rfl, Nat.le_of_ble_eq_true rfl, Nat.le_of_ble_eq_true rfl⟩ rfl (c_Mod_in) ?_
        rintro v1 w9 ⟨hw9, ⟨hv1, hin⟩ | ⟨hv1, hin⟩⟩
        · skip
          rw [hv1, hw9]
          clear hv1 hw9 v1 w9
          dsimp only [Option.toList, List.cons_append, List.nil_append, List.append_nil]
          refine wp_if_eq (pc' := 10) (pt := 21) rfl rfl rfl (fun q_429 => absurd q_429 (by decide)) (fun q_429 => ?_)
          refine wp_iload_n (pc' := 11) rfl rfl rfl ?_
          refine wp_call (pc' := 14) rfl rfl rfl rfl rfl ⟨Nat.le_of_ble_eq_true rfl, Nat.le_of_ble_eq_true rfl, Nat.le_of_ble_eq_true rfl, Nat.le_of_ble_eq_true rfl, Nat.le_of_ble_eq_true rfl⟩ rfl (c_Mod_isRow) ?_
          rintro v1 w9 ⟨hw9, ⟨hv1, hro⟩ | ⟨hv1, hro⟩⟩
          · skip
            rw [hv1, hw9]
            clear hv1 hw9 v1 w9
            dsimp only [Option.toList, List.cons_append, List.nil_append, List.append_nil]
            refine wp_if_eq (pc' := 17) (pt := 21) rfl rfl rfl (fun q_430 => absurd q_430 (by decide)) (fun q_430 => ?_)
            refine wp_iconst (a := 1) (pc' := 18) rfl rfl rfl ?_
            refine wp_goto (pc' := 22) rfl rfl ?_
            refine wp_call (pc' := 25) rfl rfl rfl rfl rfl ⟨Nat.le_of_ble_eq_true rfl, Nat.le_of_ble_eq_true rfl, Nat.le_of_ble_eq_true rfl, Nat.le_of_ble_eq_true rfl, Nat.le_of_ble_eq_true rfl⟩ rfl (c_Mod_need (by decide)) ?_
            rintro v1 w9 ⟨hw9, ⟨hv1, hg1⟩ | ⟨hv1, hg1, hg2⟩ | ⟨hv1, hg1, hg2⟩⟩
            · skip
              rw [hv1, hw9]
              clear hv1 hw9 v1 w9
              dsimp only [Option.toList, List.cons_append, List.nil_append, List.append_nil]
              refine wp_istore_n (pc' := 26) rfl rfl (Nat.le_of_ble_eq_true rfl) rfl ?_
              dsimp only [lset, lset2, List.set, List.getElem?_cons_zero, List.getElem?_cons_succ]
              refine wp_iload_n (pc' := 27) rfl rfl rfl ?_
              refine wp_if_ge (pc' := 30) (pt := 32) rfl rfl rfl (fun q_431 => absurd q_431 (by decide)) (fun q_431 => ?_)
              refine wp_iload_n (pc' := 31) rfl rfl rfl ?_
              refine wp_ret rfl rfl rfl ?_
              first
              | (exfalso; omega)
              | exact ⟨rfl, rfl, hI⟩
            · skip
              rw [hv1, hw9]
              clear hv1 hw9 v1 w9
              dsimp only [Option.toList, List.cons_append, List.nil_append, List.append_nil]
              refine wp_istore_n (pc' := 26) rfl rfl (Nat.le_of_ble_eq_true rfl) rfl ?_
              dsimp only [lset, lset2, List.set, List.getElem?_cons_zero, List.getElem?_cons_succ]
              refine wp_iload_n (pc' := 27) rfl rfl rfl ?_
              refine wp_if_ge (pc' := 30) (pt := 32) rfl rfl rfl (fun q_432 => absurd q_432 (by decide)) (fun q_432 => ?_)
              refine wp_iload_n (pc' := 31) rfl rfl rfl ?_
              refine wp_ret rfl rfl rfl ?_
              first
              | (exfalso; omega)
              | exact ⟨rfl, rfl, hI⟩
            · skip
              rw [hv1, hw9]
              clear hv1 hw9 v1 w9
              dsimp only [Option.toList, List.cons_append, List.nil_append, List.append_nil]
              refine wp_istore_n (pc' := 26) rfl rfl (Nat.le_of_ble_eq_true rfl) rfl ?_
              dsimp only [lset, lset2, List.set, List.getElem?_cons_zero, List.getElem?_cons_succ]
              refine wp_iload_n (pc' := 27) rfl rfl rfl ?_
              refine wp_if_ge (pc' := 30) (pt := 32) rfl rfl rfl (fun q_433 => ?_) (fun q_433 => absurd (by decide) q_433)
              exfalso; omega
          · skip
            rw [hv1, hw9]
            clear hv1 hw9 v1 w9
            dsimp only [Option.toList, List.cons_append, List.nil_append, List.append_nil]
            refine wp_if_eq (pc' := 17) (pt := 21) rfl rfl rfl (fun q_434 => ?_) (fun q_434 => absurd (by decide) q_434)
            refine wp_iconst (a := 0) (pc' := 22) rfl rfl rfl ?_
            refine wp_call (pc' := 25) rfl rfl rfl rfl rfl ⟨Nat.le_of_ble_eq_true rfl, Nat.le_of_ble_eq_true rfl, Nat.le_of_ble_eq_true rfl, Nat.le_of_ble_eq_true rfl, Nat.le_of_ble_eq_true rfl⟩ rfl (c_Mod_need (by decide)) ?_
            rintro v1 w9 ⟨hw9, ⟨hv1, hg1⟩ | ⟨hv1, hg1, hg2⟩ | ⟨hv1, hg1, hg2⟩⟩
            · skip
              rw [hv1, hw9]
              clear hv1 hw9 v1 w9
              dsimp only [Option.toList, List.cons_append, List.nil_append, List.append_nil]
              refine wp_istore_n (pc' := 26) rfl rfl (Nat.le_of_ble_eq_true rfl) rfl ?_
              dsimp only [lset, lset2, List.set, List.getElem?_cons_zero, List.getElem?_cons_succ]
              refine wp_iload_n (pc' := 27) rfl rfl rfl ?_
              refine wp_if_ge (pc' := 30) (pt := 32) rfl rfl rfl (fun q_435 => absurd q_435 (by decide)) (fun q_435 => ?_)
              refine wp_iload_n (pc' := 31) rfl rfl rfl ?_
              refine wp_ret rfl rfl rfl ?_
              first
              | (exfalso; omega)
              | exact ⟨rfl, rfl, hI⟩
            · skip
              rw [hv1, hw9]
              clear hv1 hw9 v1 w9
              dsimp only [Option.toList, List.cons_append, List.nil_append, List.append_nil]
              refine wp_istore_n (pc' := 26) rfl rfl (Nat.le_of_ble_eq_true rfl) rfl ?_
              dsimp only [lset, lset2, List.set, List.getElem?_cons_zero, List.getElem?_cons_succ]
              refine wp_iload_n (pc' := 27) rfl rfl rfl ?_
              refine wp_if_ge (pc' := 30) (pt := 32) rfl rfl rfl (fun q_436 => absurd q_436 (by decide)) (fun q_436 => ?_)
              refine wp_iload_n (pc' := 31) rfl rfl rfl ?_
              refine wp_ret rfl rfl rfl ?_
              first
              | (exfalso; omega)
              | exact ⟨rfl, rfl, hI⟩
            · skip
              rw [hv1, hw9]
              clear hv1 hw9 v1 w9
              dsimp only [Option.toList, List.cons_append, List.nil_append, List.append_nil]
              refine wp_istore_n (pc' := 26) rfl rfl (Nat.le_of_ble_eq_true rfl) rfl ?_
              dsimp only [lset, lset2, List.set, List.getElem?_cons_zero, List.getElem?_cons_succ]
              refine wp_iload_n (pc' := 27) rfl rfl rfl ?_
              refine wp_if_ge (pc' := 30) (pt := 32) rfl rfl rfl (fun q_437 => ?_) (fun q_437 => absurd (by decide) q_437)
              exfalso; omega
        · skip
          rw [hv1, hw9]
          clear hv1 hw9 v1 w9
          dsimp only [Option.toList, List.cons_append, List.nil_append, List.append_nil]
          refine wp_if_eq (pc' := 10) (pt := 21) rfl rfl rfl (fun q_438 => ?_) (fun q_438 => absurd (by decide) q_438)
          refine wp_iconst (a := 0) (pc' := 22) rfl rfl rfl ?_
          refine wp_call (pc' := 25) rfl rfl rfl rfl rfl ⟨Nat.le_of_ble_eq_true rfl, Nat.le_of_ble_eq_true rfl, Nat.le_of_ble_eq_true rfl, Nat.le_of_ble_eq_true rfl, Nat.le_of_ble_eq_true rfl⟩ rfl (c_Mod_need (by decide)) ?_
          rintro v1 w9 ⟨hw9, ⟨hv1, hg1⟩ | ⟨hv1, hg1, hg2⟩ | ⟨hv1, hg1, hg2⟩⟩
          · skip
            rw [hv1, hw9]
            clear hv1 hw9 v1 w9
            dsimp only [Option.toList, List.cons_append, List.nil_append, List.append_nil]
            refine wp_istore_n (pc' := 26) rfl rfl (Nat.le_of_ble_eq_true rfl) rfl ?_
            dsimp only [lset, lset2, List.set, List.getElem?_cons_zero, List.getElem?_cons_succ]
            refine wp_iload_n (pc' := 27) rfl rfl rfl ?_
            refine wp_if_ge (pc' := 30) (pt := 32) rfl rfl rfl (fun q_439 => absurd q_439 (by decide)) (fun q_439 => ?_)
            refine wp_iload_n (pc' := 31) rfl rfl rfl ?_
            refine wp_ret rfl rfl rfl ?_
            first
            | (exfalso; omega)
            | exact ⟨rfl, rfl, hI⟩
          · skip
            rw [hv1, hw9]
            clear hv1 hw9 v1 w9
            dsimp only [Option.toList, List.cons_append, List.nil_append, List.append_nil]
            refine wp_istore_n (pc' := 26) rfl rfl (Nat.le_of_ble_eq_true rfl) rfl ?_
            dsimp only [lset, lset2, List.set, List.getElem?_cons_zero, List.getElem?_cons_succ]
            refine wp_iload_n (pc' := 27) rfl rfl rfl ?_
            refine wp_if_ge (pc' := 30) (pt := 32) rfl rfl rfl (fun q_440 => absurd q_440 (by decide)) (fun q_440 => ?_)
            refine wp_iload_n (pc' := 31) rfl rfl rfl ?_
            refine wp_ret rfl rfl rfl ?_
            first
            | (exfalso; omega)
            | exact ⟨rfl, rfl, hI⟩
          · skip
            rw [hv1, hw9]
            clear hv1 hw9 v1 w9
            dsimp only [Option.toList, List.cons_append, List.nil_append, List.append_nil]
            refine wp_istore_n (pc' := 26) rfl rfl (Nat.le_of_ble_eq_true rfl) rfl ?_
            dsimp only [lset, lset2, List.set, List.getElem?_cons_zero, List.getElem?_cons_succ]
            refine wp_iload_n (pc' := 27) rfl rfl rfl ?_
            refine wp_if_ge (pc' := 30) (pt := 32) rfl rfl rfl (fun q_441 => ?_) (fun q_441 => absurd (by decide) q_441)
            exfalso; omega
