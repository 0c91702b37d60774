/-! what the invariant says of the land; gain, one -/
def Pre (w : Hp) : Prop := LnOK w ∧ MdOK w ∧ Cel (w 3 0) (w 3 1) (w 3 3) ∧ (0 ≤ w 3 4 ∧ w 3 4 ≤ 4) ∧ ∀ i : Int, 0 ≤ i → i < w 3 2 → w 107 i = w 4 i ∧ w 109 (3 + i) = w 5 i ∧ w 108 i = w 6 i
def Base (w : Hp) : Prop := (0 ≤ w 3 0 * w 3 1 ∧ w 3 0 * w 3 1 ≤ 25) ∧ w 100 11 = w 3 0 ∧ w 100 12 = w 3 1 ∧ w 100 10 = w 3 2 ∧ (0 ≤ w 3 2 ∧ w 3 2 ≤ 6) ∧ (w 3 0 = 0 ↔ w 3 2 = 0) ∧ w 109 0 = w 3 3 ∧ w 109 1 = w 3 4 ∧ w 109 2 = w 3 5 ∧ w 100 23 = w 3 6 ∧ (0 ≤ w 3 5 ∧ w 3 5 ≤ w 3 6) ∧ (0 ≤ w 3 6 ∧ w 3 6 ≤ 40) ∧ (w 3 2 ≠ 0 → Pre w)
theorem Inv.base {w : Hp} (h : Inv w) : Base w := by
  obtain ⟨-, -, -, -, -, -, h7, -⟩ := h
  rcases h7 with ⟨a1, a2, a3, a4, a5, a6, a7, b1, b2, b3, b4, b5, b6, b7⟩ | ⟨hM, ⟨c1, c2, c3, c4, c5, c6, c7⟩, d1, d2, d3, d4, d5, d6⟩
  · refine ⟨by rw [a1, a2]; decide, by omega, by omega, by omega, by omega, by omega, by omega, by omega, by omega, by omega, by omega, by omega, fun hz => absurd a3 hz⟩
  · have hmul := hM.1.mul
    have hn := hM.2.1
    have hCL := id hM.1
    obtain ⟨q1, q2, q3, q4⟩ := hCL
    refine ⟨by rw [c1, c2]; omega, c1.symm, c2.symm, c3.symm, by omega, by omega, c4.symm, c5.symm, c6.symm, c7.symm, by omega, by omega, fun _ => ⟨?_, hM, by rw [c1, c2, c4]; exact d2, by omega, fun i a b => ?_⟩⟩
    · refine ⟨by rw [c1, c2]; exact hM.1, by omega, fun i a b => ?_⟩
      have e := d5 i a (by omega)
      have f := hM.2.2 i a (by omega)
      rw [show (4 : Int) = 3 + 1 from rfl, show (5 : Int) = 3 + 2 from rfl, show (6 : Int) = 3 + 3 from rfl, e.1, e.2.1, e.2.2.1, c1, c2]
      exact f
    · have e := d5 i a (by omega)
      exact ⟨e.1.symm, e.2.1.symm, e.2.2.1.symm⟩
set_option maxRecDepth 20000 in
set_option maxHeartbeats 4000000 in
theorem p_gain {w : Hp} {d : Nat} {i : Int} {cell : Int} (hI : Inv w) : WP SH (d + 9) 92 0 [some (vR 0), some (vI i), some (vI cell)] [] w (fun v0 w1 => ∃ a, v0 = some (vI a) ∧ w1 (-2) = w (-2) ∧ WP SH (d + 9) 189 0 [some (vR 100), some (vI i), some (vI cell)] [] w1 (fun v2 w2 => v2 = some (vI a) ∧ w2 (-2) = w1 (-2) ∧ Inv w2)) := by
  obtain ⟨hT, hRO, hIF, hITo, hIR, hIT, hIL, hIK⟩ := id hI
  obtain ⟨hn25, b11, b12, b10, hn6, hem, m0, m1, m2, m23, hyr, hdd, hpre⟩ := hI.base
  have hmm : w 100 11 * w 100 12 = w 3 0 * w 3 1 := by rw [b11, b12]
  refine wp_aload_n (pc' := 1) rfl rfl rfl (by decide) ?_
  refine wp_getR (r' := 3) (ci := 9) (k0 := 2) (pc' := 4) rfl rfl (by decide) (by first | assumption | rfl) (hT.get 2 rfl) ?_
  refine wp_iload_n (pc' := 5) rfl rfl rfl ?_
  refine wp_call (pc' := 8) rfl rfl rfl rfl rfl ⟨Nat.le_of_ble_eq_true rfl, Nat.le_of_ble_eq_true rfl, Nat.le_of_ble_eq_true rfl, Nat.le_of_ble_eq_true rfl, Nat.le_of_ble_eq_true rfl⟩ rfl (c_Land_hasOne) ?_
  rintro v1 w9 ⟨hw9, ⟨hv1, ho⟩ | ⟨hv1, ho⟩⟩
  · skip
    rw [hv1, hw9]
    clear hv1 hw9 v1 w9
    dsimp only [Option.toList, List.cons_append, List.nil_append, List.append_nil]
    refine wp_if_eq (pc' := 11) (pt := 22) rfl rfl rfl (fun q_1 => absurd q_1 (by decide)) (fun q_1 => ?_)
    refine wp_aload_n (pc' := 12) rfl rfl rfl (by decide) ?_
    refine wp_getR (r' := 3) (ci := 9) (k0 := 2) (pc' := 15) rfl rfl (by decide) (by first | assumption | rfl) (hT.get 2 rfl) ?_
    refine wp_iload_n (pc' := 16) rfl rfl rfl ?_
    refine wp_call (pc' := 19) rfl rfl rfl rfl rfl ⟨Nat.le_of_ble_eq_true rfl, Nat.le_of_ble_eq_true rfl, Nat.le_of_ble_eq_true rfl, Nat.le_of_ble_eq_true rfl, Nat.le_of_ble_eq_true rfl⟩ rfl (c_Land_hasCell hn25) ?_
    rintro v1 w9 ⟨hw9, ⟨hv1, hx⟩ | ⟨hv1, hx⟩⟩
    · skip
      rw [hv1, hw9]
      clear hv1 hw9 v1 w9
      dsimp only [Option.toList, List.cons_append, List.nil_append, List.append_nil]
      refine wp_if_ne (pc' := 22) (pt := 24) rfl rfl rfl (fun q_2 => ?_) (fun q_2 => absurd (by decide) q_2)
      refine wp_aload_n (pc' := 25) rfl rfl rfl (by decide) ?_
      refine wp_getR (r' := 3) (ci := 9) (k0 := 2) (pc' := 28) rfl rfl (by decide) (by first | assumption | rfl) (hT.get 2 rfl) ?_
      refine wp_iload_n (pc' := 29) rfl rfl rfl ?_
      refine wp_iload_n (pc' := 30) rfl rfl rfl ?_
      refine wp_call (pc' := 33) rfl rfl rfl rfl rfl ⟨Nat.le_of_ble_eq_true rfl, Nat.le_of_ble_eq_true rfl, Nat.le_of_ble_eq_true rfl, Nat.le_of_ble_eq_true rfl, Nat.le_of_ble_eq_true rfl⟩ rfl (c_Land_gains (hpre (by omega)).1.1 (by omega) hT hx ((hpre (by omega)).1.2.2 i ho.1 ho.2).2.1) ?_
      intro v1 w9 hq1
      rw [hq1.1, hq1.2]
      clear hq1 v1 w9
      dsimp only [Option.toList, List.cons_append, List.nil_append, List.append_nil]
      refine wp_ret rfl rfl rfl ?_
      refine ⟨_, rfl, ?_, ?_⟩
      · rfl
      refine wp_aload_n (pc' := 1) rfl rfl rfl (by decide) ?_
      refine wp_iload_n (pc' := 2) rfl rfl rfl ?_
      refine wp_call (pc' := 5) rfl rfl rfl rfl rfl ⟨Nat.le_of_ble_eq_true rfl, Nat.le_of_ble_eq_true rfl, Nat.le_of_ble_eq_true rfl, Nat.le_of_ble_eq_true rfl, Nat.le_of_ble_eq_true rfl⟩ rfl (c_Mod_isOne (by omega)) ?_
      rintro v1 w9 ⟨hw9, ⟨hv1, ho2⟩ | ⟨hv1, ho2⟩⟩
      · skip
        rw [hv1, hw9]
        clear hv1 hw9 v1 w9
        dsimp only [Option.toList, List.cons_append, List.nil_append, List.append_nil]
        refine wp_if_eq (pc' := 8) (pt := 25) rfl rfl rfl (fun q_53 => absurd q_53 (by decide)) (fun q_53 => ?_)
        refine wp_aload_n (pc' := 9) rfl rfl rfl (by decide) ?_
        refine wp_iload_n (pc' := 10) rfl rfl rfl ?_
        refine wp_call (pc' := 13) rfl rfl rfl rfl rfl ⟨Nat.le_of_ble_eq_true rfl, Nat.le_of_ble_eq_true rfl, Nat.le_of_ble_eq_true rfl, Nat.le_of_ble_eq_true rfl, Nat.le_of_ble_eq_true rfl⟩ rfl (c_Mod_isCell (by omega)) ?_
        rintro v1 w9 ⟨hw9, ⟨hv1, hx2⟩ | ⟨hv1, hx2⟩⟩
        · skip
          rw [hv1, hw9]
          clear hv1 hw9 v1 w9
          dsimp only [Option.toList, List.cons_append, List.nil_append, List.append_nil]
          refine wp_if_eq (pc' := 16) (pt := 25) rfl rfl rfl (fun q_54 => absurd q_54 (by decide)) (fun q_54 => ?_)
          refine wp_aload_n (pc' := 17) rfl rfl rfl (by decide) ?_
          refine wp_iload_n (pc' := 18) rfl rfl rfl ?_
          refine wp_iload_n (pc' := 19) rfl rfl rfl ?_
          refine wp_call (pc' := 22) rfl rfl rfl rfl rfl ⟨Nat.le_of_ble_eq_true rfl, Nat.le_of_ble_eq_true rfl, Nat.le_of_ble_eq_true rfl, Nat.le_of_ble_eq_true rfl, Nat.le_of_ble_eq_true rfl⟩ rfl (c_Mod_gainOn (hpre (by omega)).2.1.1 (by omega) hT hx2 ((hpre (by omega)).2.1.2.2 i ho2.1 ho2.2).2.1) ?_
          intro v1 w9 hq1
          rw [hq1.1, hq1.2]
          clear hq1 v1 w9
          dsimp only [Option.toList, List.cons_append, List.nil_append, List.append_nil]
          refine wp_goto (pc' := 26) rfl rfl ?_
          refine wp_ret rfl rfl rfl ?_
          first
          | (exfalso; omega)
          | exact ⟨rfl, rfl, hI⟩
          | (have hpq := (hpre (by omega)).2.2.2.2 i ho.1 ho.2
             exact ⟨by rw [b11, hpq.1, hpq.2.1], rfl, hI⟩)
        · skip
          rw [hv1, hw9]
          clear hv1 hw9 v1 w9
          dsimp only [Option.toList, List.cons_append, List.nil_append, List.append_nil]
          refine wp_if_eq (pc' := 16) (pt := 25) rfl rfl rfl (fun q_55 => ?_) (fun q_55 => absurd (by decide) q_55)
          refine wp_iconst (a := -1) (pc' := 26) rfl rfl rfl ?_
          refine wp_ret rfl rfl rfl ?_
          first
          | (exfalso; omega)
          | exact ⟨rfl, rfl, hI⟩
          | (have hpq := (hpre (by omega)).2.2.2.2 i ho.1 ho.2
             exact ⟨by rw [b11, hpq.1, hpq.2.1], rfl, hI⟩)
      · skip
        rw [hv1, hw9]
        clear hv1 hw9 v1 w9
        dsimp only [Option.toList, List.cons_append, List.nil_append, List.append_nil]
        refine wp_if_eq (pc' := 8) (pt := 25) rfl rfl rfl (fun q_56 => ?_) (fun q_56 => absurd (by decide) q_56)
        refine wp_iconst (a := -1) (pc' := 26) rfl rfl rfl ?_
        refine wp_ret rfl rfl rfl ?_
        first
        | (exfalso; omega)
        | exact ⟨rfl, rfl, hI⟩
        | (have hpq := (hpre (by omega)).2.2.2.2 i ho.1 ho.2
           exact ⟨by rw [b11, hpq.1, hpq.2.1], rfl, hI⟩)
    · skip
      rw [hv1, hw9]
      clear hv1 hw9 v1 w9
      dsimp only [Option.toList, List.cons_append, List.nil_append, List.append_nil]
      refine wp_if_ne (pc' := 22) (pt := 24) rfl rfl rfl (fun q_57 => absurd q_57 (by decide)) (fun q_57 => ?_)
      refine wp_iconst (a := -1) (pc' := 23) rfl rfl rfl ?_
      refine wp_ret rfl rfl rfl ?_
      refine ⟨_, rfl, ?_, ?_⟩
      · rfl
      refine wp_aload_n (pc' := 1) rfl rfl rfl (by decide) ?_
      refine wp_iload_n (pc' := 2) rfl rfl rfl ?_
      refine wp_call (pc' := 5) rfl rfl rfl rfl rfl ⟨Nat.le_of_ble_eq_true rfl, Nat.le_of_ble_eq_true rfl, Nat.le_of_ble_eq_true rfl, Nat.le_of_ble_eq_true rfl, Nat.le_of_ble_eq_true rfl⟩ rfl (c_Mod_isOne (by omega)) ?_
      rintro v1 w9 ⟨hw9, ⟨hv1, ho2⟩ | ⟨hv1, ho2⟩⟩
      · skip
        rw [hv1, hw9]
        clear hv1 hw9 v1 w9
        dsimp only [Option.toList, List.cons_append, List.nil_append, List.append_nil]
        refine wp_if_eq (pc' := 8) (pt := 25) rfl rfl rfl (fun q_108 => absurd q_108 (by decide)) (fun q_108 => ?_)
        refine wp_aload_n (pc' := 9) rfl rfl rfl (by decide) ?_
        refine wp_iload_n (pc' := 10) rfl rfl rfl ?_
        refine wp_call (pc' := 13) rfl rfl rfl rfl rfl ⟨Nat.le_of_ble_eq_true rfl, Nat.le_of_ble_eq_true rfl, Nat.le_of_ble_eq_true rfl, Nat.le_of_ble_eq_true rfl, Nat.le_of_ble_eq_true rfl⟩ rfl (c_Mod_isCell (by omega)) ?_
        rintro v1 w9 ⟨hw9, ⟨hv1, hx2⟩ | ⟨hv1, hx2⟩⟩
        · skip
          rw [hv1, hw9]
          clear hv1 hw9 v1 w9
          dsimp only [Option.toList, List.cons_append, List.nil_append, List.append_nil]
          refine wp_if_eq (pc' := 16) (pt := 25) rfl rfl rfl (fun q_109 => absurd q_109 (by decide)) (fun q_109 => ?_)
          refine wp_aload_n (pc' := 17) rfl rfl rfl (by decide) ?_
          refine wp_iload_n (pc' := 18) rfl rfl rfl ?_
          refine wp_iload_n (pc' := 19) rfl rfl rfl ?_
          refine wp_call (pc' := 22) rfl rfl rfl rfl rfl ⟨Nat.le_of_ble_eq_true rfl, Nat.le_of_ble_eq_true rfl, Nat.le_of_ble_eq_true rfl, Nat.le_of_ble_eq_true rfl, Nat.le_of_ble_eq_true rfl⟩ rfl (c_Mod_gainOn (hpre (by omega)).2.1.1 (by omega) hT hx2 ((hpre (by omega)).2.1.2.2 i ho2.1 ho2.2).2.1) ?_
          intro v1 w9 hq1
          rw [hq1.1, hq1.2]
          clear hq1 v1 w9
          dsimp only [Option.toList, List.cons_append, List.nil_append, List.append_nil]
          refine wp_goto (pc' := 26) rfl rfl ?_
          refine wp_ret rfl rfl rfl ?_
          first
          | (exfalso; omega)
          | exact ⟨rfl, rfl, hI⟩
          | (have hpq := (hpre (by omega)).2.2.2.2 i ho.1 ho.2
             exact ⟨by rw [b11, hpq.1, hpq.2.1], rfl, hI⟩)
        · skip
          rw [hv1, hw9]
          clear hv1 hw9 v1 w9
          dsimp only [Option.toList, List.cons_append, List.nil_append, List.append_nil]
          refine wp_if_eq (pc' := 16) (pt := 25) rfl rfl rfl (fun q_110 => ?_) (fun q_110 => absurd (by decide) q_110)
          refine wp_iconst (a := -1) (pc' := 26) rfl rfl rfl ?_
          refine wp_ret rfl rfl rfl ?_
          first
          | (exfalso; omega)
          | exact ⟨rfl, rfl, hI⟩
          | (have hpq := (hpre (by omega)).2.2.2.2 i ho.1 ho.2
             exact ⟨by rw [b11, hpq.1, hpq.2.1], rfl, hI⟩)
      · skip
        rw [hv1, hw9]
        clear hv1 hw9 v1 w9
        dsimp only [Option.toList, List.cons_append, List.nil_append, List.append_nil]
        refine wp_if_eq (pc' := 8) (pt := 25) rfl rfl rfl (fun q_111 => ?_) (fun q_111 => absurd (by decide) q_111)
        refine wp_iconst (a := -1) (pc' := 26) rfl rfl rfl ?_
        refine wp_ret rfl rfl rfl ?_
        first
        | (exfalso; omega)
        | exact ⟨rfl, rfl, hI⟩
        | (have hpq := (hpre (by omega)).2.2.2.2 i ho.1 ho.2
           exact ⟨by rw [b11, hpq.1, hpq.2.1], rfl, hI⟩)
  · skip
    rw [hv1, hw9]
    clear hv1 hw9 v1 w9
    dsimp only [Option.toList, List.cons_append, List.nil_append, List.append_nil]
    refine wp_if_eq (pc' := 11) (pt := 22) rfl rfl rfl (fun q_112 => ?_) (fun q_112 => absurd (by decide) q_112)
    refine wp_iconst (a := -1) (pc' := 23) rfl rfl rfl ?_
    refine wp_ret rfl rfl rfl ?_
    refine ⟨_, rfl, ?_, ?_⟩
    · rfl
    refine wp_aload_n (pc' := 1) rfl rfl rfl (by decide) ?_
    refine wp_iload_n (pc' := 2) rfl rfl rfl ?_
    refine wp_call (pc' := 5) rfl rfl rfl rfl rfl ⟨Nat.le_of_ble_eq_true rfl, Nat.le_of_ble_eq_true rfl, Nat.le_of_ble_eq_true rfl, Nat.le_of_ble_eq_true rfl, Nat.le_of_ble_eq_true rfl⟩ rfl (c_Mod_isOne (by omega)) ?_
    rintro v1 w9 ⟨hw9, ⟨hv1, ho2⟩ | ⟨hv1, ho2⟩⟩
    · skip
      rw [hv1, hw9]
      clear hv1 hw9 v1 w9
      dsimp only [Option.toList, List.cons_append, List.nil_append, List.append_nil]
      refine wp_if_eq (pc' := 8) (pt := 25) rfl rfl rfl (fun q_163 => absurd q_163 (by decide)) (fun q_163 => ?_)
      refine wp_aload_n (pc' := 9) rfl rfl rfl (by decide) ?_
      refine wp_iload_n (pc' := 10) rfl rfl rfl ?_
      refine wp_call (pc' := 13) rfl rfl rfl rfl rfl ⟨Nat.le_of_ble_eq_true rfl, Nat.le_of_ble_eq_true rfl, Nat.le_of_ble_eq_true rfl, Nat.le_of_ble_eq_true rfl, Nat.le_of_ble_eq_true rfl⟩ rfl (c_Mod_isCell (by omega)) ?_
      rintro v1 w9 ⟨hw9, ⟨hv1, hx2⟩ | ⟨hv1, hx2⟩⟩
      · skip
        rw [hv1, hw9]
        clear hv1 hw9 v1 w9
        dsimp only [Option.toList, List.cons_append, List.nil_append, List.append_nil]
        refine wp_if_eq (pc' := 16) (pt := 25) rfl rfl rfl (fun q_164 => absurd q_164 (by decide)) (fun q_164 => ?_)
        refine wp_aload_n (pc' := 17) rfl rfl rfl (by decide) ?_
        refine wp_iload_n (pc' := 18) rfl rfl rfl ?_
        refine wp_iload_n (pc' := 19) rfl rfl rfl ?_
        refine wp_call (pc' := 22) rfl rfl rfl rfl rfl ⟨Nat.le_of_ble_eq_true rfl, Nat.le_of_ble_eq_true rfl, Nat.le_of_ble_eq_true rfl, Nat.le_of_ble_eq_true rfl, Nat.le_of_ble_eq_true rfl⟩ rfl (c_Mod_gainOn (hpre (by omega)).2.1.1 (by omega) hT hx2 ((hpre (by omega)).2.1.2.2 i ho2.1 ho2.2).2.1) ?_
        intro v1 w9 hq1
        rw [hq1.1, hq1.2]
        clear hq1 v1 w9
        dsimp only [Option.toList, List.cons_append, List.nil_append, List.append_nil]
        refine wp_goto (pc' := 26) rfl rfl ?_
        refine wp_ret rfl rfl rfl ?_
        first
        | (exfalso; omega)
        | exact ⟨rfl, rfl, hI⟩
        | (have hpq := (hpre (by omega)).2.2.2.2 i ho.1 ho.2
           exact ⟨by rw [b11, hpq.1, hpq.2.1], rfl, hI⟩)
      · skip
        rw [hv1, hw9]
        clear hv1 hw9 v1 w9
        dsimp only [Option.toList, List.cons_append, List.nil_append, List.append_nil]
        refine wp_if_eq (pc' := 16) (pt := 25) rfl rfl rfl (fun q_165 => ?_) (fun q_165 => absurd (by decide) q_165)
        refine wp_iconst (a := -1) (pc' := 26) rfl rfl rfl ?_
        refine wp_ret rfl rfl rfl ?_
        first
        | (exfalso; omega)
        | exact ⟨rfl, rfl, hI⟩
        | (have hpq := (hpre (by omega)).2.2.2.2 i ho.1 ho.2
           exact ⟨by rw [b11, hpq.1, hpq.2.1], rfl, hI⟩)
    · skip
      rw [hv1, hw9]
      clear hv1 hw9 v1 w9
      dsimp only [Option.toList, List.cons_append, List.nil_append, List.append_nil]
      refine wp_if_eq (pc' := 8) (pt := 25) rfl rfl rfl (fun q_166 => ?_) (fun q_166 => absurd (by decide) q_166)
      refine wp_iconst (a := -1) (pc' := 26) rfl rfl rfl ?_
      refine wp_ret rfl rfl rfl ?_
      first
      | (exfalso; omega)
      | exact ⟨rfl, rfl, hI⟩
      | (have hpq := (hpre (by omega)).2.2.2.2 i ho.1 ho.2
         exact ⟨by rw [b11, hpq.1, hpq.2.1], rfl, hI⟩)
set_option maxRecDepth 20000 in
set_option maxHeartbeats 4000000 in
theorem c_VH_aboutOne {w : Hp} {d : Nat} {i what : Int} (hT : Stc w) (hr : ROw w) (hp : Pre w) (hi : 0 ≤ i ∧ i < w 3 2) : WP SH (d + 4) 131 0 [some (vR 0), some (vI i), some (vI what)] [] w (fun v w' => v = some (vI (if what = 0 then (w 4 i) else if what = 1 then (w 5 i) else if what = 2 then (w 6 i) else if what = 3 then sG (w 3 0) (w 4 i) (w 5 i) (w 3 3) else sVote (w 3 0) (w 3 1) (w 4 i) (w 5 i) (w 3 3) (w 3 4))) ∧ w' = w) := by
  obtain ⟨hL, hM, hmt, hbk, heq⟩ := id hp
  have hn := hL.2.1
  have hai := hL.2.2 i hi.1 hi.2
  refine wp_iload_n (pc' := 1) rfl rfl rfl ?_
  refine wp_swE (0) (pt := 32) rfl (by decide) rfl rfl (fun q_1 => ?_) (fun q_1 => ?_)
  · skip
    refine wp_aload_n (pc' := 33) rfl rfl rfl (by decide) ?_
    refine wp_getR (r' := 3) (ci := 9) (k0 := 2) (pc' := 36) rfl rfl (by decide) (by first | assumption | rfl) (hT.get 2 rfl) ?_
    refine wp_getR (r' := 4) (ci := 3) (k0 := 7) (pc' := 39) rfl rfl (by decide) (by first | assumption | rfl) (hT.get 23 rfl) ?_
    refine wp_iload_n (pc' := 40) rfl rfl rfl ?_
    refine wp_iaload (pc' := 41) rfl rfl (by first | assumption | rfl) (by omega) ?_
    refine wp_ret rfl rfl rfl ?_
    refine ⟨congrArg (fun z => some (vI z)) ?_, rfl⟩
    (repeat' split) <;> first | rfl | omega
  refine wp_swE (1) (pt := 42) rfl (by decide) rfl rfl (fun q_2 => ?_) (fun q_2 => ?_)
  · skip
    refine wp_aload_n (pc' := 43) rfl rfl rfl (by decide) ?_
    refine wp_getR (r' := 3) (ci := 9) (k0 := 2) (pc' := 46) rfl rfl (by decide) (by first | assumption | rfl) (hT.get 2 rfl) ?_
    refine wp_getR (r' := 5) (ci := 3) (k0 := 8) (pc' := 49) rfl rfl (by decide) (by first | assumption | rfl) (hT.get 24 rfl) ?_
    refine wp_iload_n (pc' := 50) rfl rfl rfl ?_
    refine wp_iaload (pc' := 51) rfl rfl (by first | assumption | rfl) (by omega) ?_
    refine wp_ret rfl rfl rfl ?_
    refine ⟨congrArg (fun z => some (vI z)) ?_, rfl⟩
    (repeat' split) <;> first | rfl | omega
  refine wp_swE (2) (pt := 52) rfl (by decide) rfl rfl (fun q_3 => ?_) (fun q_3 => ?_)
  · skip
    refine wp_aload_n (pc' := 53) rfl rfl rfl (by decide) ?_
    refine wp_getR (r' := 3) (ci := 9) (k0 := 2) (pc' := 56) rfl rfl (by decide) (by first | assumption | rfl) (hT.get 2 rfl) ?_
    refine wp_getR (r' := 6) (ci := 3) (k0 := 9) (pc' := 59) rfl rfl (by decide) (by first | assumption | rfl) (hT.get 25 rfl) ?_
    refine wp_iload_n (pc' := 60) rfl rfl rfl ?_
    refine wp_iaload (pc' := 61) rfl rfl (by first | assumption | rfl) (by omega) ?_
    refine wp_ret rfl rfl rfl ?_
    refine ⟨congrArg (fun z => some (vI z)) ?_, rfl⟩
    (repeat' split) <;> first | rfl | omega
  refine wp_swE (3) (pt := 62) rfl (by decide) rfl rfl (fun q_4 => ?_) (fun q_4 => ?_)
  · skip
    refine wp_aload_n (pc' := 63) rfl rfl rfl (by decide) ?_
    refine wp_getR (r' := 3) (ci := 9) (k0 := 2) (pc' := 66) rfl rfl (by decide) (by first | assumption | rfl) (hT.get 2 rfl) ?_
    refine wp_iload_n (pc' := 67) rfl rfl rfl ?_
    refine wp_aload_n (pc' := 68) rfl rfl rfl (by decide) ?_
    refine wp_getR (r' := 3) (ci := 9) (k0 := 2) (pc' := 71) rfl rfl (by decide) (by first | assumption | rfl) (hT.get 2 rfl) ?_
    refine wp_getI (ci := 3) (k0 := 3) (pc' := 74) rfl rfl (by decide) (by first | assumption | rfl) ?_
    refine wp_call (pc' := 77) rfl rfl rfl rfl rfl ⟨Nat.le_of_ble_eq_true rfl, Nat.le_of_ble_eq_true rfl, Nat.le_of_ble_eq_true rfl, Nat.le_of_ble_eq_true rfl, Nat.le_of_ble_eq_true rfl⟩ rfl (c_Land_gains hL.1 (by omega) hT hmt hai.2.1) ?_
    intro v1 w9 hq1
    rw [hq1.1, hq1.2]
    clear hq1 v1 w9
    dsimp only [Option.toList, List.cons_append, List.nil_append, List.append_nil]
    refine wp_ret rfl rfl rfl ?_
    refine ⟨congrArg (fun z => some (vI z)) ?_, rfl⟩
    (repeat' split) <;> first | rfl | omega
  refine wp_swOut (pc' := 78) rfl (by omega) rfl ?_
  refine wp_aload_n (pc' := 79) rfl rfl rfl (by decide) ?_
  refine wp_getR (r' := 3) (ci := 9) (k0 := 2) (pc' := 82) rfl rfl (by decide) (by first | assumption | rfl) (hT.get 2 rfl) ?_
  refine wp_iload_n (pc' := 83) rfl rfl rfl ?_
  refine wp_aload_n (pc' := 84) rfl rfl rfl (by decide) ?_
  refine wp_getR (r' := 3) (ci := 9) (k0 := 2) (pc' := 87) rfl rfl (by decide) (by first | assumption | rfl) (hT.get 2 rfl) ?_
  refine wp_getI (ci := 3) (k0 := 3) (pc' := 90) rfl rfl (by decide) (by first | assumption | rfl) ?_
  refine wp_aload_n (pc' := 91) rfl rfl rfl (by decide) ?_
  refine wp_getR (r' := 3) (ci := 9) (k0 := 2) (pc' := 94) rfl rfl (by decide) (by first | assumption | rfl) (hT.get 2 rfl) ?_
  refine wp_getI (ci := 3) (k0 := 4) (pc' := 97) rfl rfl (by decide) (by first | assumption | rfl) ?_
  refine wp_call (pc' := 100) rfl rfl rfl rfl rfl ⟨Nat.le_of_ble_eq_true rfl, Nat.le_of_ble_eq_true rfl, Nat.le_of_ble_eq_true rfl, Nat.le_of_ble_eq_true rfl, Nat.le_of_ble_eq_true rfl⟩ rfl (c_Ballot_choiceOf hL.1 hr hT (by omega) hai.1 hmt hai.2.1) ?_
  intro v1 w9 hq1
  rw [hq1.1, hq1.2]
  clear hq1 v1 w9
  dsimp only [Option.toList, List.cons_append, List.nil_append, List.append_nil]
  refine wp_ret rfl rfl rfl ?_
  refine ⟨congrArg (fun z => some (vI z)) ?_, rfl⟩
  (repeat' split) <;> first | rfl | omega
set_option maxRecDepth 20000 in
set_option maxHeartbeats 4000000 in
theorem c_Mod_oneTells {w : Hp} {d : Nat} {i what : Int} (hT : Stc w) (hM : MdOK w) (hmt : Cel (w 100 11) (w 100 12) (w 109 0)) (hi : 0 ≤ i ∧ i < w 100 10) : WP SH (d + 5) 184 0 [some (vR 100), some (vI i), some (vI what)] [] w (fun v w' => v = some (vI (if what = 0 then (w 107 i) else if what = 1 then (w 109 (3 + i)) else if what = 2 then (w 108 i) else if what = 3 then sG (w 100 11) (w 107 i) (w 109 (3 + i)) (w 109 0) else sVote (w 100 11) (w 100 12) (w 107 i) (w 109 (3 + i)) (w 109 0) (w 109 1))) ∧ w' = w) := by
  have hn := hM.2.1
  have hai := hM.2.2 i hi.1 hi.2
  refine wp_iload_n (pc' := 1) rfl rfl rfl ?_
  refine wp_swE (0) (pt := 32) rfl (by decide) rfl rfl (fun q_1 => ?_) (fun q_1 => ?_)
  · skip
    refine wp_aload_n (pc' := 33) rfl rfl rfl (by decide) ?_
    refine wp_getR (r' := 107) (ci := 10) (k0 := 13) (pc' := 36) rfl rfl (by decide) (by first | assumption | rfl) (hT.get 105 rfl) ?_
    refine wp_iload_n (pc' := 37) rfl rfl rfl ?_
    refine wp_iaload (pc' := 38) rfl rfl (by first | assumption | rfl) (by omega) ?_
    refine wp_ret rfl rfl rfl ?_
    refine ⟨congrArg (fun z => some (vI z)) ?_, rfl⟩
    (repeat' split) <;> first | rfl | omega
  refine wp_swE (1) (pt := 39) rfl (by decide) rfl rfl (fun q_2 => ?_) (fun q_2 => ?_)
  · skip
    refine wp_aload_n (pc' := 40) rfl rfl rfl (by decide) ?_
    refine wp_getR (r' := 109) (ci := 10) (k0 := 15) (pc' := 43) rfl rfl (by decide) (by first | assumption | rfl) (hT.get 107 rfl) ?_
    refine wp_iconst (a := 3) (pc' := 44) rfl rfl rfl ?_
    refine wp_iload_n (pc' := 45) rfl rfl rfl ?_
    refine wp_iadd (pc' := 46) rfl rfl (by first | exact w32_id (by omega) (by omega) | rfl) ?_
    refine wp_iaload (pc' := 47) rfl rfl (by first | assumption | rfl) (by omega) ?_
    refine wp_ret rfl rfl rfl ?_
    refine ⟨congrArg (fun z => some (vI z)) ?_, rfl⟩
    (repeat' split) <;> first | rfl | omega
  refine wp_swE (2) (pt := 48) rfl (by decide) rfl rfl (fun q_3 => ?_) (fun q_3 => ?_)
  · skip
    refine wp_aload_n (pc' := 49) rfl rfl rfl (by decide) ?_
    refine wp_getR (r' := 108) (ci := 10) (k0 := 14) (pc' := 52) rfl rfl (by decide) (by first | assumption | rfl) (hT.get 106 rfl) ?_
    refine wp_iload_n (pc' := 53) rfl rfl rfl ?_
    refine wp_iaload (pc' := 54) rfl rfl (by first | assumption | rfl) (by omega) ?_
    refine wp_ret rfl rfl rfl ?_
    refine ⟨congrArg (fun z => some (vI z)) ?_, rfl⟩
    (repeat' split) <;> first | rfl | omega
  refine wp_swE (3) (pt := 55) rfl (by decide) rfl rfl (fun q_4 => ?_) (fun q_4 => ?_)
  · skip
    refine wp_aload_n (pc' := 56) rfl rfl rfl (by decide) ?_
    refine wp_iload_n (pc' := 57) rfl rfl rfl ?_
    refine wp_aload_n (pc' := 58) rfl rfl rfl (by decide) ?_
    refine wp_getR (r' := 109) (ci := 10) (k0 := 15) (pc' := 61) rfl rfl (by decide) (by first | assumption | rfl) (hT.get 107 rfl) ?_
    refine wp_iconst (a := 0) (pc' := 62) rfl rfl rfl ?_
    refine wp_iaload (pc' := 63) rfl rfl (by first | assumption | rfl) (by omega) ?_
    refine wp_call (pc' := 66) rfl rfl rfl rfl rfl ⟨Nat.le_of_ble_eq_true rfl, Nat.le_of_ble_eq_true rfl, Nat.le_of_ble_eq_true rfl, Nat.le_of_ble_eq_true rfl, Nat.le_of_ble_eq_true rfl⟩ rfl (c_Mod_gainOn hM.1 (by omega) hT hmt hai.2.1) ?_
    intro v1 w9 hq1
    rw [hq1.1, hq1.2]
    clear hq1 v1 w9
    dsimp only [Option.toList, List.cons_append, List.nil_append, List.append_nil]
    refine wp_ret rfl rfl rfl ?_
    refine ⟨congrArg (fun z => some (vI z)) ?_, rfl⟩
    (repeat' split) <;> first | rfl | omega
  refine wp_swOut (pc' := 67) rfl (by omega) rfl ?_
  refine wp_aload_n (pc' := 68) rfl rfl rfl (by decide) ?_
  refine wp_iload_n (pc' := 69) rfl rfl rfl ?_
  refine wp_aload_n (pc' := 70) rfl rfl rfl (by decide) ?_
  refine wp_getR (r' := 109) (ci := 10) (k0 := 15) (pc' := 73) rfl rfl (by decide) (by first | assumption | rfl) (hT.get 107 rfl) ?_
  refine wp_iconst (a := 0) (pc' := 74) rfl rfl rfl ?_
  refine wp_iaload (pc' := 75) rfl rfl (by first | assumption | rfl) (by omega) ?_
  refine wp_aload_n (pc' := 76) rfl rfl rfl (by decide) ?_
  refine wp_getR (r' := 109) (ci := 10) (k0 := 15) (pc' := 79) rfl rfl (by decide) (by first | assumption | rfl) (hT.get 107 rfl) ?_
  refine wp_iconst (a := 1) (pc' := 80) rfl rfl rfl ?_
  refine wp_iaload (pc' := 81) rfl rfl (by first | assumption | rfl) (by omega) ?_
  refine wp_call (pc' := 84) rfl rfl rfl rfl rfl ⟨Nat.le_of_ble_eq_true rfl, Nat.le_of_ble_eq_true rfl, Nat.le_of_ble_eq_true rfl, Nat.le_of_ble_eq_true rfl, Nat.le_of_ble_eq_true rfl⟩ rfl (c_Mod_voteOn hM.1 hT (by omega) hmt hai.2.1) ?_
  intro v1 w9 hq1
  rw [hq1.1, hq1.2]
  clear hq1 v1 w9
  dsimp only [Option.toList, List.cons_append, List.nil_append, List.append_nil]
  refine wp_ret rfl rfl rfl ?_
  refine ⟨congrArg (fun z => some (vI z)) ?_, rfl⟩
  (repeat' split) <;> first | rfl | omega
set_option maxRecDepth 20000 in
set_option maxHeartbeats 4000000 in
theorem p_one {w : Hp} {d : Nat} {i : Int} {what : Int} (hI : Inv w) : WP SH (d + 9) 90 0 [some (vR 0), some (vI i), some (vI what)] [] w (fun v0 w1 => ∃ a, v0 = some (vI a) ∧ w1 (-2) = w (-2) ∧ WP SH (d + 9) 185 0 [some (vR 100), some (vI i), some (vI what)] [] w1 (fun v2 w2 => v2 = some (vI a) ∧ w2 (-2) = w1 (-2) ∧ Inv w2)) := by
  obtain ⟨hT, hRO, hIF, hITo, hIR, hIT, hIL, hIK⟩ := id hI
  obtain ⟨hn25, b11, b12, b10, hn6, hem, m0, m1, m2, m23, hyr, hdd, hpre⟩ := hI.base
  have hmm : w 100 11 * w 100 12 = w 3 0 * w 3 1 := by rw [b11, b12]
  refine wp_aload_n (pc' := 1) rfl rfl rfl (by decide) ?_
  refine wp_getR (r' := 3) (ci := 9) (k0 := 2) (pc' := 4) rfl rfl (by decide) (by first | assumption | rfl) (hT.get 2 rfl) ?_
  refine wp_iload_n (pc' := 5) rfl rfl rfl ?_
  refine wp_call (pc' := 8) rfl rfl rfl rfl rfl ⟨Nat.le_of_ble_eq_true rfl, Nat.le_of_ble_eq_true rfl, Nat.le_of_ble_eq_true rfl, Nat.le_of_ble_eq_true rfl, Nat.le_of_ble_eq_true rfl⟩ rfl (c_Land_hasOne) ?_
  rintro v1 w9 ⟨hw9, ⟨hv1, ho⟩ | ⟨hv1, ho⟩⟩
  · skip
    rw [hv1, hw9]
    clear hv1 hw9 v1 w9
    dsimp only [Option.toList, List.cons_append, List.nil_append, List.append_nil]
    refine wp_if_eq (pc' := 11) (pt := 20) rfl rfl rfl (fun q_1 => absurd q_1 (by decide)) (fun q_1 => ?_)
    refine wp_iload_n (pc' := 12) rfl rfl rfl ?_
    refine wp_if_lt (pc' := 15) (pt := 20) rfl rfl rfl (fun q_2 => ?_) (fun q_2 => ?_)
    · skip
      refine wp_iconst (a := -1) (pc' := 21) rfl rfl rfl ?_
      refine wp_ret rfl rfl rfl ?_
      refine ⟨_, rfl, ?_, ?_⟩
      · rfl
      refine wp_aload_n (pc' := 1) rfl rfl rfl (by decide) ?_
      refine wp_iload_n (pc' := 2) rfl rfl rfl ?_
      refine wp_call (pc' := 5) rfl rfl rfl rfl rfl ⟨Nat.le_of_ble_eq_true rfl, Nat.le_of_ble_eq_true rfl, Nat.le_of_ble_eq_true rfl, Nat.le_of_ble_eq_true rfl, Nat.le_of_ble_eq_true rfl⟩ rfl (c_Mod_isOne (by first | omega | (rw [e10]; omega))) ?_
      rintro v1 w9 ⟨hw9, ⟨hv1, ho2⟩ | ⟨hv1, ho2⟩⟩
      · skip
        rw [hv1, hw9]
        clear hv1 hw9 v1 w9
        dsimp only [Option.toList, List.cons_append, List.nil_append, List.append_nil]
        refine wp_if_eq (pc' := 8) (pt := 31) rfl rfl rfl (fun q_53 => absurd q_53 (by decide)) (fun q_53 => ?_)
        refine wp_iload_n (pc' := 9) rfl rfl rfl ?_
        refine wp_iconst (a := 0) (pc' := 10) rfl rfl rfl ?_
        refine wp_iconst (a := 4) (pc' := 11) rfl rfl rfl ?_
        refine wp_call (pc' := 14) rfl rfl rfl rfl rfl ⟨Nat.le_of_ble_eq_true rfl, Nat.le_of_ble_eq_true rfl, Nat.le_of_ble_eq_true rfl, Nat.le_of_ble_eq_true rfl, Nat.le_of_ble_eq_true rfl⟩ rfl (c_Mod_in) ?_
        rintro v1 w9 ⟨hw9, ⟨hv1, hw2⟩ | ⟨hv1, hw2⟩⟩
        · skip
          rw [hv1, hw9]
          clear hv1 hw9 v1 w9
          dsimp only [Option.toList, List.cons_append, List.nil_append, List.append_nil]
          refine wp_if_eq (pc' := 17) (pt := 31) rfl rfl rfl (fun q_54 => absurd q_54 (by decide)) (fun q_54 => ?_)
          exfalso; omega
        · skip
          rw [hv1, hw9]
          clear hv1 hw9 v1 w9
          dsimp only [Option.toList, List.cons_append, List.nil_append, List.append_nil]
          refine wp_if_eq (pc' := 17) (pt := 31) rfl rfl rfl (fun q_55 => ?_) (fun q_55 => absurd (by decide) q_55)
          refine wp_iconst (a := -1) (pc' := 32) rfl rfl rfl ?_
          refine wp_ret rfl rfl rfl ?_
          first
          | (exfalso; omega)
          | exact ⟨rfl, rfl, hI⟩
          | (have hpq := hp1.2.2.2.2 i ho.1 ho.2
             refine ⟨rfl, by rw [hw9, up_ne (by decide)], hI.query (w' := w9) ?_ ?_⟩
             · rw [hw9, hw1]
               exact ((SameF.rf w _ _).put (Or.inr (by decide))).put (Or.inr (by decide))
             · rw [hw9, up_eq, up_ne (by decide), hw1, up_eq, up_ne (by decide), up_ne (by decide), up_ne (by decide), up_ne (by decide), b11, b12, m0, m1, hpq.1, hpq.2.1, hpq.2.2])
      · skip
        rw [hv1, hw9]
        clear hv1 hw9 v1 w9
        dsimp only [Option.toList, List.cons_append, List.nil_append, List.append_nil]
        refine wp_if_eq (pc' := 8) (pt := 31) rfl rfl rfl (fun q_56 => ?_) (fun q_56 => absurd (by decide) q_56)
        refine wp_iconst (a := -1) (pc' := 32) rfl rfl rfl ?_
        refine wp_ret rfl rfl rfl ?_
        first
        | (exfalso; omega)
        | exact ⟨rfl, rfl, hI⟩
        | (have hpq := hp1.2.2.2.2 i ho.1 ho.2
           refine ⟨rfl, by rw [hw9, up_ne (by decide)], hI.query (w' := w9) ?_ ?_⟩
           · rw [hw9, hw1]
             exact ((SameF.rf w _ _).put (Or.inr (by decide))).put (Or.inr (by decide))
           · rw [hw9, up_eq, up_ne (by decide), hw1, up_eq, up_ne (by decide), up_ne (by decide), up_ne (by decide), up_ne (by decide), b11, b12, m0, m1, hpq.1, hpq.2.1, hpq.2.2])
    · skip
      refine wp_iload_n (pc' := 16) rfl rfl rfl ?_
      refine wp_iconst (a := 4) (pc' := 17) rfl rfl rfl ?_
      refine wp_icmp_le (pc' := 20) (pt := 22) rfl rfl rfl (fun q_57 => ?_) (fun q_57 => ?_)
      · skip
        refine wp_aload_n (pc' := 23) rfl rfl rfl (by decide) ?_
        refine wp_aload_n (pc' := 24) rfl rfl rfl (by decide) ?_
        refine wp_iload_n (pc' := 25) rfl rfl rfl ?_
        refine wp_iload_n (pc' := 26) rfl rfl rfl ?_
        refine wp_call (pc' := 29) rfl rfl rfl rfl rfl ⟨Nat.le_of_ble_eq_true rfl, Nat.le_of_ble_eq_true rfl, Nat.le_of_ble_eq_true rfl, Nat.le_of_ble_eq_true rfl, Nat.le_of_ble_eq_true rfl⟩ rfl (c_VH_aboutOne hT hRO (hpre (by omega)) ho) ?_
        intro v1 w9 hq1
        rw [hq1.1, hq1.2]
        clear hq1 v1 w9
        dsimp only [Option.toList, List.cons_append, List.nil_append, List.append_nil]
        refine wp_putI (ci := 9) (k0 := 14) (pc' := 32) rfl rfl (by decide) (by first | assumption | rfl) ?_
        refine wp_iconst (a := 1) (pc' := 33) rfl rfl rfl ?_
        refine wp_ret rfl rfl rfl ?_
        refine ⟨_, rfl, ?_, ?_⟩
        · rw [up_ne (by decide)]
        obtain ⟨w1, hw1⟩ : ∃ w1, w1 = up w 0 14 (if what = 0 then (w 4 i) else if what = 1 then (w 5 i) else if what = 2 then (w 6 i) else if what = 3 then sG (w 3 0) (w 4 i) (w 5 i) (w 3 3) else sVote (w 3 0) (w 3 1) (w 4 i) (w 5 i) (w 3 3) (w 3 4)) := ⟨_, rfl⟩
        rw [← hw1]
        have hT : Stc w1 := by rw [hw1]; exact hT.putF (by decide)
        have eo : ∀ q : Int, q ≠ 0 → w1 q = w q := fun q a => by rw [hw1, up_ne a]
        have hp1 := hpre (by omega)
        have hM1 : MdOK w1 := hp1.2.1.same (L := [0]) (fun q hq => eo q (by simpa using hq)) (by decide)
        have e10 : w1 100 10 = w 100 10 := by rw [eo 100 (by decide)]
        have hmt1 : Cel (w1 100 11) (w1 100 12) (w1 109 0) := by rw [eo 100 (by decide), eo 109 (by decide), b11, b12, m0]; exact hp1.2.2.1
        refine wp_aload_n (pc' := 1) rfl rfl rfl (by decide) ?_
        refine wp_iload_n (pc' := 2) rfl rfl rfl ?_
        refine wp_call (pc' := 5) rfl rfl rfl rfl rfl ⟨Nat.le_of_ble_eq_true rfl, Nat.le_of_ble_eq_true rfl, Nat.le_of_ble_eq_true rfl, Nat.le_of_ble_eq_true rfl, Nat.le_of_ble_eq_true rfl⟩ rfl (c_Mod_isOne (by first | omega | (rw [e10]; omega))) ?_
        rintro v1 w9 ⟨hw9, ⟨hv1, ho2⟩ | ⟨hv1, ho2⟩⟩
        · skip
          rw [hv1, hw9]
          clear hv1 hw9 v1 w9
          dsimp only [Option.toList, List.cons_append, List.nil_append, List.append_nil]
          refine wp_if_eq (pc' := 8) (pt := 31) rfl rfl rfl (fun q_108 => absurd q_108 (by decide)) (fun q_108 => ?_)
          refine wp_iload_n (pc' := 9) rfl rfl rfl ?_
          refine wp_iconst (a := 0) (pc' := 10) rfl rfl rfl ?_
          refine wp_iconst (a := 4) (pc' := 11) rfl rfl rfl ?_
          refine wp_call (pc' := 14) rfl rfl rfl rfl rfl ⟨Nat.le_of_ble_eq_true rfl, Nat.le_of_ble_eq_true rfl, Nat.le_of_ble_eq_true rfl, Nat.le_of_ble_eq_true rfl, Nat.le_of_ble_eq_true rfl⟩ rfl (c_Mod_in) ?_
          rintro v1 w9 ⟨hw9, ⟨hv1, hw2⟩ | ⟨hv1, hw2⟩⟩
          · skip
            rw [hv1, hw9]
            clear hv1 hw9 v1 w9
            dsimp only [Option.toList, List.cons_append, List.nil_append, List.append_nil]
            refine wp_if_eq (pc' := 17) (pt := 31) rfl rfl rfl (fun q_109 => absurd q_109 (by decide)) (fun q_109 => ?_)
            refine wp_aload_n (pc' := 18) rfl rfl rfl (by decide) ?_
            refine wp_aload_n (pc' := 19) rfl rfl rfl (by decide) ?_
            refine wp_iload_n (pc' := 20) rfl rfl rfl ?_
            refine wp_iload_n (pc' := 21) rfl rfl rfl ?_
            refine wp_call (pc' := 24) rfl rfl rfl rfl rfl ⟨Nat.le_of_ble_eq_true rfl, Nat.le_of_ble_eq_true rfl, Nat.le_of_ble_eq_true rfl, Nat.le_of_ble_eq_true rfl, Nat.le_of_ble_eq_true rfl⟩ rfl (c_Mod_oneTells hT hM1 hmt1 ho2) ?_
            intro v1 w9 hq1
            rw [hq1.1, hq1.2]
            clear hq1 v1 w9
            dsimp only [Option.toList, List.cons_append, List.nil_append, List.append_nil]
            refine wp_iconst (a := 1) (pc' := 25) rfl rfl rfl ?_
            refine wp_call (pc' := 28) rfl rfl rfl rfl rfl ⟨Nat.le_of_ble_eq_true rfl, Nat.le_of_ble_eq_true rfl, Nat.le_of_ble_eq_true rfl, Nat.le_of_ble_eq_true rfl, Nat.le_of_ble_eq_true rfl⟩ rfl (c_Mod_tells) ?_
            rintro v1 w9 ⟨hv1, hw9⟩
            rw [hv1]
            clear hv1 v1
            dsimp only [Option.toList, List.cons_append, List.nil_append, List.append_nil]
            refine wp_goto (pc' := 32) rfl rfl ?_
            refine wp_ret rfl rfl rfl ?_
            first
            | (exfalso; omega)
            | exact ⟨rfl, rfl, hI⟩
            | (have hpq := hp1.2.2.2.2 i ho.1 ho.2
               refine ⟨rfl, by rw [hw9, up_ne (by decide)], hI.query (w' := w9) ?_ ?_⟩
               · rw [hw9, hw1]
                 exact ((SameF.rf w _ _).put (Or.inr (by decide))).put (Or.inr (by decide))
               · rw [hw9, up_eq, up_ne (by decide), hw1, up_eq, up_ne (by decide), up_ne (by decide), up_ne (by decide), up_ne (by decide), b11, b12, m0, m1, hpq.1, hpq.2.1, hpq.2.2])
          · skip
            rw [hv1, hw9]
            clear hv1 hw9 v1 w9
            dsimp only [Option.toList, List.cons_append, List.nil_append, List.append_nil]
            refine wp_if_eq (pc' := 17) (pt := 31) rfl rfl rfl (fun q_110 => ?_) (fun q_110 => absurd (by decide) q_110)
            refine wp_iconst (a := -1) (pc' := 32) rfl rfl rfl ?_
            refine wp_ret rfl rfl rfl ?_
            first
            | (exfalso; omega)
            | exact ⟨rfl, rfl, hI⟩
            | (have hpq := hp1.2.2.2.2 i ho.1 ho.2
               refine ⟨rfl, by rw [hw9, up_ne (by decide)], hI.query (w' := w9) ?_ ?_⟩
               · rw [hw9, hw1]
                 exact ((SameF.rf w _ _).put (Or.inr (by decide))).put (Or.inr (by decide))
               · rw [hw9, up_eq, up_ne (by decide), hw1, up_eq, up_ne (by decide), up_ne (by decide), up_ne (by decide), up_ne (by decide), b11, b12, m0, m1, hpq.1, hpq.2.1, hpq.2.2])
        · skip
          rw [hv1, hw9]
          clear hv1 hw9 v1 w9
          dsimp only [Option.toList, List.cons_append, List.nil_append, List.append_nil]
          refine wp_if_eq (pc' := 8) (pt := 31) rfl rfl rfl (fun q_111 => ?_) (fun q_111 => absurd (by decide) q_111)
          refine wp_iconst (a := -1) (pc' := 32) rfl rfl rfl ?_
          refine wp_ret rfl rfl rfl ?_
          first
          | (exfalso; omega)
          | exact ⟨rfl, rfl, hI⟩
          | (have hpq := hp1.2.2.2.2 i ho.1 ho.2
             refine ⟨rfl, by rw [hw9, up_ne (by decide)], hI.query (w' := w9) ?_ ?_⟩
             · rw [hw9, hw1]
               exact ((SameF.rf w _ _).put (Or.inr (by decide))).put (Or.inr (by decide))
             · rw [hw9, up_eq, up_ne (by decide), hw1, up_eq, up_ne (by decide), up_ne (by decide), up_ne (by decide), up_ne (by decide), b11, b12, m0, m1, hpq.1, hpq.2.1, hpq.2.2])
      · skip
        refine wp_iconst (a := -1) (pc' := 21) rfl rfl rfl ?_
        refine wp_ret rfl rfl rfl ?_
        refine ⟨_, rfl, ?_, ?_⟩
        · rfl
        refine wp_aload_n (pc' := 1) rfl rfl rfl (by decide) ?_
        refine wp_iload_n (pc' := 2) rfl rfl rfl ?_
        refine wp_call (pc' := 5) rfl rfl rfl rfl rfl ⟨Nat.le_of_ble_eq_true rfl, Nat.le_of_ble_eq_true rfl, Nat.le_of_ble_eq_true rfl, Nat.le_of_ble_eq_true rfl, Nat.le_of_ble_eq_true rfl⟩ rfl (c_Mod_isOne (by first | omega | (rw [e10]; omega))) ?_
        rintro v1 w9 ⟨hw9, ⟨hv1, ho2⟩ | ⟨hv1, ho2⟩⟩
        · skip
          rw [hv1, hw9]
          clear hv1 hw9 v1 w9
          dsimp only [Option.toList, List.cons_append, List.nil_append, List.append_nil]
          refine wp_if_eq (pc' := 8) (pt := 31) rfl rfl rfl (fun q_162 => absurd q_162 (by decide)) (fun q_162 => ?_)
          refine wp_iload_n (pc' := 9) rfl rfl rfl ?_
          refine wp_iconst (a := 0) (pc' := 10) rfl rfl rfl ?_
          refine wp_iconst (a := 4) (pc' := 11) rfl rfl rfl ?_
          refine wp_call (pc' := 14) rfl rfl rfl rfl rfl ⟨Nat.le_of_ble_eq_true rfl, Nat.le_of_ble_eq_true rfl, Nat.le_of_ble_eq_true rfl, Nat.le_of_ble_eq_true rfl, Nat.le_of_ble_eq_true rfl⟩ rfl (c_Mod_in) ?_
          rintro v1 w9 ⟨hw9, ⟨hv1, hw2⟩ | ⟨hv1, hw2⟩⟩
          · skip
            rw [hv1, hw9]
            clear hv1 hw9 v1 w9
            dsimp only [Option.toList, List.cons_append, List.nil_append, List.append_nil]
            refine wp_if_eq (pc' := 17) (pt := 31) rfl rfl rfl (fun q_163 => absurd q_163 (by decide)) (fun q_163 => ?_)
            exfalso; omega
          · skip
            rw [hv1, hw9]
            clear hv1 hw9 v1 w9
            dsimp only [Option.toList, List.cons_append, List.nil_append, List.append_nil]
            refine wp_if_eq (pc' := 17) (pt := 31) rfl rfl rfl (fun q_164 => ?_) (fun q_164 => absurd (by decide) q_164)
            refine wp_iconst (a := -1) (pc' := 32) rfl rfl rfl ?_
            refine wp_ret rfl rfl rfl ?_
            first
            | (exfalso; omega)
            | exact ⟨rfl, rfl, hI⟩
            | (have hpq := hp1.2.2.2.2 i ho.1 ho.2
               refine ⟨rfl, by rw [hw9, up_ne (by decide)], hI.query (w' := w9) ?_ ?_⟩
               · rw [hw9, hw1]
                 exact ((SameF.rf w _ _).put (Or.inr (by decide))).put (Or.inr (by decide))
               · rw [hw9, up_eq, up_ne (by decide), hw1, up_eq, up_ne (by decide), up_ne (by decide), up_ne (by decide), up_ne (by decide), b11, b12, m0, m1, hpq.1, hpq.2.1, hpq.2.2])
        · skip
          rw [hv1, hw9]
          clear hv1 hw9 v1 w9
          dsimp only [Option.toList, List.cons_append, List.nil_append, List.append_nil]
          refine wp_if_eq (pc' := 8) (pt := 31) rfl rfl rfl (fun q_165 => ?_) (fun q_165 => absurd (by decide) q_165)
          refine wp_iconst (a := -1) (pc' := 32) rfl rfl rfl ?_
          refine wp_ret rfl rfl rfl ?_
          first
          | (exfalso; omega)
          | exact ⟨rfl, rfl, hI⟩
          | (have hpq := hp1.2.2.2.2 i ho.1 ho.2
             refine ⟨rfl, by rw [hw9, up_ne (by decide)], hI.query (w' := w9) ?_ ?_⟩
             · rw [hw9, hw1]
               exact ((SameF.rf w _ _).put (Or.inr (by decide))).put (Or.inr (by decide))
             · rw [hw9, up_eq, up_ne (by decide), hw1, up_eq, up_ne (by decide), up_ne (by decide), up_ne (by decide), up_ne (by decide), b11, b12, m0, m1, hpq.1, hpq.2.1, hpq.2.2])
  · skip
    rw [hv1, hw9]
    clear hv1 hw9 v1 w9
    dsimp only [Option.toList, List.cons_append, List.nil_append, List.append_nil]
    refine wp_if_eq (pc' := 11) (pt := 20) rfl rfl rfl (fun q_166 => ?_) (fun q_166 => absurd (by decide) q_166)
    refine wp_iconst (a := -1) (pc' := 21) rfl rfl rfl ?_
    refine wp_ret rfl rfl rfl ?_
    refine ⟨_, rfl, ?_, ?_⟩
    · rfl
    refine wp_aload_n (pc' := 1) rfl rfl rfl (by decide) ?_
    refine wp_iload_n (pc' := 2) rfl rfl rfl ?_
    refine wp_call (pc' := 5) rfl rfl rfl rfl rfl ⟨Nat.le_of_ble_eq_true rfl, Nat.le_of_ble_eq_true rfl, Nat.le_of_ble_eq_true rfl, Nat.le_of_ble_eq_true rfl, Nat.le_of_ble_eq_true rfl⟩ rfl (c_Mod_isOne (by first | omega | (rw [e10]; omega))) ?_
    rintro v1 w9 ⟨hw9, ⟨hv1, ho2⟩ | ⟨hv1, ho2⟩⟩
    · skip
      rw [hv1, hw9]
      clear hv1 hw9 v1 w9
      dsimp only [Option.toList, List.cons_append, List.nil_append, List.append_nil]
      refine wp_if_eq (pc' := 8) (pt := 31) rfl rfl rfl (fun q_217 => absurd q_217 (by decide)) (fun q_217 => ?_)
      refine wp_iload_n (pc' := 9) rfl rfl rfl ?_
      refine wp_iconst (a := 0) (pc' := 10) rfl rfl rfl ?_
      refine wp_iconst (a := 4) (pc' := 11) rfl rfl rfl ?_
      refine wp_call (pc' := 14) rfl rfl rfl rfl rfl ⟨Nat.le_of_ble_eq_true rfl, Nat.le_of_ble_eq_true rfl, Nat.le_of_ble_eq_true rfl, Nat.le_of_ble_eq_true rfl, Nat.le_of_ble_eq_true rfl⟩ rfl (c_Mod_in) ?_
      rintro v1 w9 ⟨hw9, ⟨hv1, hw2⟩ | ⟨hv1, hw2⟩⟩
      · skip
        rw [hv1, hw9]
        clear hv1 hw9 v1 w9
        dsimp only [Option.toList, List.cons_append, List.nil_append, List.append_nil]
        refine wp_if_eq (pc' := 17) (pt := 31) rfl rfl rfl (fun q_218 => absurd q_218 (by decide)) (fun q_218 => ?_)
        exfalso; omega
      · skip
        rw [hv1, hw9]
        clear hv1 hw9 v1 w9
        dsimp only [Option.toList, List.cons_append, List.nil_append, List.append_nil]
        refine wp_if_eq (pc' := 17) (pt := 31) rfl rfl rfl (fun q_219 => ?_) (fun q_219 => absurd (by decide) q_219)
        refine wp_iconst (a := -1) (pc' := 32) rfl rfl rfl ?_
        refine wp_ret rfl rfl rfl ?_
        first
        | (exfalso; omega)
        | exact ⟨rfl, rfl, hI⟩
        | (have hpq := hp1.2.2.2.2 i ho.1 ho.2
           refine ⟨rfl, by rw [hw9, up_ne (by decide)], hI.query (w' := w9) ?_ ?_⟩
           · rw [hw9, hw1]
             exact ((SameF.rf w _ _).put (Or.inr (by decide))).put (Or.inr (by decide))
           · rw [hw9, up_eq, up_ne (by decide), hw1, up_eq, up_ne (by decide), up_ne (by decide), up_ne (by decide), up_ne (by decide), b11, b12, m0, m1, hpq.1, hpq.2.1, hpq.2.2])
    · skip
      rw [hv1, hw9]
      clear hv1 hw9 v1 w9
      dsimp only [Option.toList, List.cons_append, List.nil_append, List.append_nil]
      refine wp_if_eq (pc' := 8) (pt := 31) rfl rfl rfl (fun q_220 => ?_) (fun q_220 => absurd (by decide) q_220)
      refine wp_iconst (a := -1) (pc' := 32) rfl rfl rfl ?_
      refine wp_ret rfl rfl rfl ?_
      first
      | (exfalso; omega)
      | exact ⟨rfl, rfl, hI⟩
      | (have hpq := hp1.2.2.2.2 i ho.1 ho.2
         refine ⟨rfl, by rw [hw9, up_ne (by decide)], hI.query (w' := w9) ?_ ?_⟩
         · rw [hw9, hw1]
           exact ((SameF.rf w _ _).put (Or.inr (by decide))).put (Or.inr (by decide))
         · rw [hw9, up_eq, up_ne (by decide), hw1, up_eq, up_ne (by decide), up_ne (by decide), up_ne (by decide), up_ne (by decide), b11, b12, m0, m1, hpq.1, hpq.2.1, hpq.2.2])
