/-! remember, on both sides -/
set_option maxRecDepth 20000 in
set_option maxHeartbeats 4000000 in
theorem c_Land_remember {w : Hp} {d : Nat} {one : Int} (hT : Stc w) (hm : 0 ≤ w 3 6 ∧ w 3 6 < 40) (ho : -1 ≤ one ∧ one < 6) : WP SH (d + 1) 47 0 [some (vR 3), some (vI one)] [] w (fun v w' => v = some (vI 1) ∧ SameF w w' [] [(7, w 3 6), (8, w 3 6), (9, w 3 6), (10, w 3 6), (11, w 3 6), (3, 6)] ∧ w' 7 (w 3 6) = w 3 3 ∧ w' 8 (w 3 6) = w 3 4 ∧ w' 9 (w 3 6) = w 3 5 ∧ w' 10 (w 3 6) = one ∧ w' 11 (w 3 6) = (if 0 ≤ one ∧ one < w 3 2 then w 5 one else -1) ∧ w' 3 6 = w 3 6 + 1) := by
  refine wp_aload_n (pc' := 1) rfl rfl rfl (by decide) ?_
  refine wp_getI (ci := 3) (k0 := 6) (pc' := 4) rfl rfl (by decide) (by first | assumption | rfl) ?_
  refine wp_bipush (a := 40) (pc' := 6) rfl rfl rfl ?_
  refine wp_icmp_lt (pc' := 9) (pt := 11) rfl rfl rfl (fun q_1 => ?_) (fun q_1 => ?_)
  · skip
    refine wp_aload_n (pc' := 12) rfl rfl rfl (by decide) ?_
    refine wp_getR (r' := 7) (ci := 3) (k0 := 10) (pc' := 15) rfl rfl (by decide) (by first | assumption | rfl) (hT.get 26 rfl) ?_
    refine wp_aload_n (pc' := 16) rfl rfl rfl (by decide) ?_
    refine wp_getI (ci := 3) (k0 := 6) (pc' := 19) rfl rfl (by decide) (by first | assumption | rfl) ?_
    refine wp_aload_n (pc' := 20) rfl rfl rfl (by decide) ?_
    refine wp_getI (ci := 3) (k0 := 3) (pc' := 23) rfl rfl (by decide) (by first | assumption | rfl) ?_
    refine wp_iastore (pc' := 24) rfl rfl (by first | assumption | rfl) (by omega) ?_
    obtain ⟨wa, hwa⟩ : ∃ wa, wa = up w 7 (w 3 6) (w 3 3) := ⟨_, rfl⟩
    rw [← hwa]
    have ewa : wa 3 = w 3 := by rw [hwa, up_ne (by decide)]
    have fwa : wa 3 6 = w 3 6 := by rw [ewa]
    have hT : Stc wa := by rw [hwa]; exact hT.putA (by decide)
    refine wp_aload_n (pc' := 25) rfl rfl rfl (by decide) ?_
    refine wp_getR (r' := 8) (ci := 3) (k0 := 11) (pc' := 28) rfl rfl (by decide) (by first | assumption | rfl) (hT.get 27 rfl) ?_
    refine wp_aload_n (pc' := 29) rfl rfl rfl (by decide) ?_
    refine wp_getI (ci := 3) (k0 := 6) (pc' := 32) rfl rfl (by decide) (by first | assumption | rfl) ?_
    refine wp_aload_n (pc' := 33) rfl rfl rfl (by decide) ?_
    refine wp_getI (ci := 3) (k0 := 4) (pc' := 36) rfl rfl (by decide) (by first | assumption | rfl) ?_
    refine wp_iastore (pc' := 37) rfl rfl (by first | assumption | rfl) (by omega) ?_
    obtain ⟨wb, hwb⟩ : ∃ wb, wb = up wa 8 (wa 3 6) (wa 3 4) := ⟨_, rfl⟩
    rw [← hwb]
    have ewb : wb 3 = w 3 := by rw [hwb, up_ne (by decide), ewa]
    have fwb : wb 3 6 = w 3 6 := by rw [ewb]
    have hT : Stc wb := by rw [hwb]; exact hT.putA (by decide)
    refine wp_aload_n (pc' := 38) rfl rfl rfl (by decide) ?_
    refine wp_getR (r' := 9) (ci := 3) (k0 := 12) (pc' := 41) rfl rfl (by decide) (by first | assumption | rfl) (hT.get 28 rfl) ?_
    refine wp_aload_n (pc' := 42) rfl rfl rfl (by decide) ?_
    refine wp_getI (ci := 3) (k0 := 6) (pc' := 45) rfl rfl (by decide) (by first | assumption | rfl) ?_
    refine wp_aload_n (pc' := 46) rfl rfl rfl (by decide) ?_
    refine wp_getI (ci := 3) (k0 := 5) (pc' := 49) rfl rfl (by decide) (by first | assumption | rfl) ?_
    refine wp_iastore (pc' := 50) rfl rfl (by first | assumption | rfl) (by omega) ?_
    obtain ⟨wc, hwc⟩ : ∃ wc, wc = up wb 9 (wb 3 6) (wb 3 5) := ⟨_, rfl⟩
    rw [← hwc]
    have ewc : wc 3 = w 3 := by rw [hwc, up_ne (by decide), ewb]
    have fwc : wc 3 6 = w 3 6 := by rw [ewc]
    have hT : Stc wc := by rw [hwc]; exact hT.putA (by decide)
    refine wp_aload_n (pc' := 51) rfl rfl rfl (by decide) ?_
    refine wp_getR (r' := 10) (ci := 3) (k0 := 13) (pc' := 54) rfl rfl (by decide) (by first | assumption | rfl) (hT.get 29 rfl) ?_
    refine wp_aload_n (pc' := 55) rfl rfl rfl (by decide) ?_
    refine wp_getI (ci := 3) (k0 := 6) (pc' := 58) rfl rfl (by decide) (by first | assumption | rfl) ?_
    refine wp_iload_n (pc' := 59) rfl rfl rfl ?_
    refine wp_iastore (pc' := 60) rfl rfl (by first | assumption | rfl) (by omega) ?_
    obtain ⟨wd, hwd⟩ : ∃ wd, wd = up wc 10 (wc 3 6) one := ⟨_, rfl⟩
    rw [← hwd]
    have ewd : wd 3 = w 3 := by rw [hwd, up_ne (by decide), ewc]
    have fwd : wd 3 6 = w 3 6 := by rw [ewd]
    have hT : Stc wd := by rw [hwd]; exact hT.putA (by decide)
    have f2 : wd 3 2 = w 3 2 := by rw [ewd]
    refine wp_aload_n (pc' := 61) rfl rfl rfl (by decide) ?_
    refine wp_getR (r' := 11) (ci := 3) (k0 := 14) (pc' := 64) rfl rfl (by decide) (by first | assumption | rfl) (hT.get 30 rfl) ?_
    refine wp_aload_n (pc' := 65) rfl rfl rfl (by decide) ?_
    refine wp_getI (ci := 3) (k0 := 6) (pc' := 68) rfl rfl (by decide) (by first | assumption | rfl) ?_
    refine wp_aload_n (pc' := 69) rfl rfl rfl (by decide) ?_
    refine wp_iload_n (pc' := 70) rfl rfl rfl ?_
    refine wp_call (pc' := 73) rfl rfl rfl rfl rfl ⟨Nat.le_of_ble_eq_true rfl, Nat.le_of_ble_eq_true rfl, Nat.le_of_ble_eq_true rfl, Nat.le_of_ble_eq_true rfl, Nat.le_of_ble_eq_true rfl⟩ rfl (c_Land_hasOne) ?_
    rintro v1 w9 ⟨hw9, ⟨hv1, hbo⟩ | ⟨hv1, hbo⟩⟩
    · skip
      rw [hv1, hw9]
      clear hv1 hw9 v1 w9
      dsimp only [Option.toList, List.cons_append, List.nil_append, List.append_nil]
      refine wp_if_eq (pc' := 76) (pt := 85) rfl rfl rfl (fun q_2 => absurd q_2 (by decide)) (fun q_2 => ?_)
      refine wp_aload_n (pc' := 77) rfl rfl rfl (by decide) ?_
      refine wp_getR (r' := 5) (ci := 3) (k0 := 8) (pc' := 80) rfl rfl (by decide) (by first | assumption | rfl) (hT.get 24 rfl) ?_
      refine wp_iload_n (pc' := 81) rfl rfl rfl ?_
      refine wp_iaload (pc' := 82) rfl rfl (by first | assumption | rfl) (by omega) ?_
      refine wp_goto (pc' := 86) rfl rfl ?_
      skip
      refine wp_iastore (pc' := 87) rfl rfl (by first | assumption | rfl) (by omega) ?_
      obtain ⟨we, hwe⟩ : ∃ we, we = up wd 11 (wd 3 6) (wd 5 one) := ⟨_, rfl⟩
      rw [← hwe]
      have ewe : we 3 = w 3 := by rw [hwe, up_ne (by decide), ewd]
      have fwe : we 3 6 = w 3 6 := by rw [ewe]
      have hT : Stc we := by rw [hwe]; exact hT.putA (by decide)
      refine wp_aload_n (pc' := 88) rfl rfl rfl (by decide) ?_
      refine wp_dupR (pc' := 89) rfl rfl ?_
      refine wp_getI (ci := 3) (k0 := 6) (pc' := 92) rfl rfl (by decide) (by first | assumption | rfl) ?_
      refine wp_iconst (a := 1) (pc' := 93) rfl rfl rfl ?_
      refine wp_iadd (pc' := 94) rfl rfl (by first | exact w32_id (by omega) (by omega) | rfl) ?_
      refine wp_putI (ci := 3) (k0 := 6) (pc' := 97) rfl rfl (by decide) (by first | assumption | rfl) ?_
      refine wp_iconst (a := 1) (pc' := 98) rfl rfl rfl ?_
      refine wp_ret rfl rfl rfl ?_
      have g5 : wd 5 = w 5 := by rw [hwd, up_ne (by decide), hwc, up_ne (by decide), hwb, up_ne (by decide), hwa, up_ne (by decide)]
      rw [fwe] at *
      refine ⟨rfl, ?_, ?_, ?_, ?_, ?_, ?_, ?_⟩
      · refine SameF.put ?_ (Or.inr (by simp))
        rw [hwe, fwd]
        refine SameF.put ?_ (Or.inr (by simp))
        rw [hwd, fwc]
        refine SameF.put ?_ (Or.inr (by simp))
        rw [hwc, fwb]
        refine SameF.put ?_ (Or.inr (by simp))
        rw [hwb, fwa]
        refine SameF.put ?_ (Or.inr (by simp))
        rw [hwa]
        exact (SameF.rf w _ _).put (Or.inr (by simp))
      · rw [up_ne (by decide), hwe, up_ne (by decide), hwd, up_ne (by decide), hwc, up_ne (by decide), hwb, up_ne (by decide), hwa, up_eq]
      · rw [up_ne (by decide), hwe, up_ne (by decide), hwd, up_ne (by decide), hwc, up_ne (by decide), hwb, fwa, up_eq, ewa]
      · rw [up_ne (by decide), hwe, up_ne (by decide), hwd, up_ne (by decide), hwc, fwb, up_eq, ewb]
      · rw [up_ne (by decide), hwe, up_ne (by decide), hwd, fwc, up_eq]
      · rw [up_ne (by decide), hwe, fwd, up_eq]
        first | (rw [if_pos (by omega), g5]) | (rw [if_neg (by omega)])
      · rw [up_eq]
    · skip
      rw [hv1, hw9]
      clear hv1 hw9 v1 w9
      dsimp only [Option.toList, List.cons_append, List.nil_append, List.append_nil]
      refine wp_if_eq (pc' := 76) (pt := 85) rfl rfl rfl (fun q_3 => ?_) (fun q_3 => absurd (by decide) q_3)
      refine wp_iconst (a := -1) (pc' := 86) rfl rfl rfl ?_
      skip
      refine wp_iastore (pc' := 87) rfl rfl (by first | assumption | rfl) (by omega) ?_
      obtain ⟨we, hwe⟩ : ∃ we, we = up wd 11 (wd 3 6) (-1) := ⟨_, rfl⟩
      rw [← hwe]
      have ewe : we 3 = w 3 := by rw [hwe, up_ne (by decide), ewd]
      have fwe : we 3 6 = w 3 6 := by rw [ewe]
      have hT : Stc we := by rw [hwe]; exact hT.putA (by decide)
      refine wp_aload_n (pc' := 88) rfl rfl rfl (by decide) ?_
      refine wp_dupR (pc' := 89) rfl rfl ?_
      refine wp_getI (ci := 3) (k0 := 6) (pc' := 92) rfl rfl (by decide) (by first | assumption | rfl) ?_
      refine wp_iconst (a := 1) (pc' := 93) rfl rfl rfl ?_
      refine wp_iadd (pc' := 94) rfl rfl (by first | exact w32_id (by omega) (by omega) | rfl) ?_
      refine wp_putI (ci := 3) (k0 := 6) (pc' := 97) rfl rfl (by decide) (by first | assumption | rfl) ?_
      refine wp_iconst (a := 1) (pc' := 98) rfl rfl rfl ?_
      refine wp_ret rfl rfl rfl ?_
      have g5 : wd 5 = w 5 := by rw [hwd, up_ne (by decide), hwc, up_ne (by decide), hwb, up_ne (by decide), hwa, up_ne (by decide)]
      rw [fwe] at *
      refine ⟨rfl, ?_, ?_, ?_, ?_, ?_, ?_, ?_⟩
      · refine SameF.put ?_ (Or.inr (by simp))
        rw [hwe, fwd]
        refine SameF.put ?_ (Or.inr (by simp))
        rw [hwd, fwc]
        refine SameF.put ?_ (Or.inr (by simp))
        rw [hwc, fwb]
        refine SameF.put ?_ (Or.inr (by simp))
        rw [hwb, fwa]
        refine SameF.put ?_ (Or.inr (by simp))
        rw [hwa]
        exact (SameF.rf w _ _).put (Or.inr (by simp))
      · rw [up_ne (by decide), hwe, up_ne (by decide), hwd, up_ne (by decide), hwc, up_ne (by decide), hwb, up_ne (by decide), hwa, up_eq]
      · rw [up_ne (by decide), hwe, up_ne (by decide), hwd, up_ne (by decide), hwc, up_ne (by decide), hwb, fwa, up_eq, ewa]
      · rw [up_ne (by decide), hwe, up_ne (by decide), hwd, up_ne (by decide), hwc, fwb, up_eq, ewb]
      · rw [up_ne (by decide), hwe, up_ne (by decide), hwd, fwc, up_eq]
      · rw [up_ne (by decide), hwe, fwd, up_eq]
        first | (rw [if_pos (by omega), g5]) | (rw [if_neg (by omega)])
      · rw [up_eq]
  · skip
    exfalso; omega
set_option maxRecDepth 20000 in
set_option maxHeartbeats 4000000 in
theorem l_Mrem {w : Hp} {d : Nat} (hT0 : Stc w) (hm : 0 ≤ w 100 23 ∧ w 100 23 < 40) : ∀ (k : Nat) (i : Int) (w1 : Hp), 0 ≤ i → i + k = 9 → Same w w1 [114] → (∀ j : Int, 0 ≤ j → j < i → w1 114 (9 * w 100 23 + j) = w 109 j) → (∀ z : Int, z < 9 * w 100 23 → w1 114 z = w 114 z) → WP SH d 190 2 [some (vR 100), some (vI i)] [] w1 (fun v w' => v = none ∧ SameF w w' [114] [(100, 23)] ∧ (∀ j : Int, 0 ≤ j → j < 9 → w' 114 (9 * w 100 23 + j) = w 109 j) ∧ (∀ z : Int, z < 9 * w 100 23 → w' 114 z = w 114 z) ∧ w' 100 23 = w 100 23 + 1) := by
  intro k
  induction k with
  | zero =>
    intro i w1 hi0 hik hS hz ho
    have hT := hT0.same hS (by decide)
    have e9 : w1 109 i = w 109 i := by rw [hS 109 (by decide)]
    have e0 : w1 100 23 = w 100 23 := by rw [hS 100 (by decide)]
    refine wp_iload_n (pc' := 3) rfl rfl rfl ?_
    refine wp_bipush (a := 9) (pc' := 5) rfl rfl rfl ?_
    refine wp_icmp_ge (pc' := 8) (pt := 34) rfl rfl rfl (fun q_1 => ?_) (fun q_1 => ?_)
    · skip
      refine wp_aload_n (pc' := 35) rfl rfl rfl (by decide) ?_
      refine wp_dupR (pc' := 36) rfl rfl ?_
      refine wp_getI (ci := 10) (k0 := 23) (pc' := 39) rfl rfl (by decide) (by first | assumption | rfl) ?_
      refine wp_iconst (a := 1) (pc' := 40) rfl rfl rfl ?_
      refine wp_iadd (pc' := 41) rfl rfl (by first | exact w32_id (by omega) (by omega) | rfl) ?_
      refine wp_putI (ci := 10) (k0 := 23) (pc' := 44) rfl rfl (by decide) (by first | assumption | rfl) ?_
      refine wp_ret rfl rfl rfl ?_
      refine ⟨rfl, (hS.F _).put (Or.inr (by decide)), fun j a b => ?_, fun z hzz => ?_, ?_⟩
      · rw [up_ne (by decide)]; exact hz j a (by omega)
      · rw [up_ne (by decide)]; exact ho z hzz
      · rw [up_eq, e0]
    · skip
      exfalso; omega
  | succ k ih =>
    intro i w1 hi0 hik hS hz ho
    have hT := hT0.same hS (by decide)
    have e9 : w1 109 i = w 109 i := by rw [hS 109 (by decide)]
    have e0 : w1 100 23 = w 100 23 := by rw [hS 100 (by decide)]
    refine wp_iload_n (pc' := 3) rfl rfl rfl ?_
    refine wp_bipush (a := 9) (pc' := 5) rfl rfl rfl ?_
    refine wp_icmp_ge (pc' := 8) (pt := 34) rfl rfl rfl (fun q_1 => ?_) (fun q_1 => ?_)
    · skip
      exfalso; omega
    · skip
      refine wp_aload_n (pc' := 9) rfl rfl rfl (by decide) ?_
      refine wp_getR (r' := 114) (ci := 10) (k0 := 24) (pc' := 12) rfl rfl (by decide) (by first | assumption | rfl) (hT.get 112 rfl) ?_
      refine wp_bipush (a := 9) (pc' := 14) rfl rfl rfl ?_
      refine wp_aload_n (pc' := 15) rfl rfl rfl (by decide) ?_
      refine wp_getI (ci := 10) (k0 := 23) (pc' := 18) rfl rfl (by decide) (by first | assumption | rfl) ?_
      refine wp_imul (pc' := 19) rfl rfl (by first | exact w32_id (by omega) (by omega) | rfl) ?_
      refine wp_iload_n (pc' := 20) rfl rfl rfl ?_
      refine wp_iadd (pc' := 21) rfl rfl (by first | exact w32_id (by omega) (by omega) | rfl) ?_
      refine wp_aload_n (pc' := 22) rfl rfl rfl (by decide) ?_
      refine wp_getR (r' := 109) (ci := 10) (k0 := 15) (pc' := 25) rfl rfl (by decide) (by first | assumption | rfl) (hT.get 107 rfl) ?_
      refine wp_iload_n (pc' := 26) rfl rfl rfl ?_
      refine wp_iaload (pc' := 27) rfl rfl (by first | assumption | rfl) (by omega) ?_
      refine wp_iastore (pc' := 28) rfl rfl (by first | assumption | rfl) (by omega) ?_
      refine wp_iinc (pc' := 31) rfl rfl rfl (inc_id (by omega) (by omega)) rfl ?_
      dsimp only [lset, lset2, List.set, List.getElem?_cons_zero, List.getElem?_cons_succ]
      refine wp_goto (pc' := 2) rfl rfl ?_
      rw [e0, e9]
      refine ih _ _ (by omega) (by omega) (hS.put (by decide)) (fun j a b => ?_) (fun z hzz => ?_)
      · by_cases hj : j = i
        · rw [hj, up_eq]
        · rw [up_at (by omega)]; exact hz j a (by omega)
      · rw [up_at (by omega)]; exact ho z hzz
set_option maxRecDepth 20000 in
set_option maxHeartbeats 4000000 in
theorem c_Mod_remember {w : Hp} {d : Nat} (hT0 : Stc w) (hm : 0 ≤ w 100 23 ∧ w 100 23 < 40) : WP SH (d + 0) 190 0 [some (vR 100), none] [] w (fun v w' => v = none ∧ SameF w w' [114] [(100, 23)] ∧ (∀ j : Int, 0 ≤ j → j < 9 → w' 114 (9 * w 100 23 + j) = w 109 j) ∧ (∀ z : Int, z < 9 * w 100 23 → w' 114 z = w 114 z) ∧ w' 100 23 = w 100 23 + 1) := by
  refine wp_iconst (a := 0) (pc' := 1) rfl rfl rfl ?_
  refine wp_istore_n (pc' := 2) rfl rfl (Nat.le_of_ble_eq_true rfl) rfl ?_
  dsimp only [lset, lset2, List.set, List.getElem?_cons_zero, List.getElem?_cons_succ]
  exact l_Mrem hT0 hm 9 0 w (by omega) (by omega) (Same.rf _ _) (fun j a b => by omega) (fun z _ => rfl)
