/-! reading a land, the reference's side -/
theorem up_comm {w : Hp} {r i x r' j y : Int} (h : r ≠ r') : up (up w r i x) r' j y = up (up w r' j y) r i x := by
  funext a b
  unfold up
  by_cases h1 : a = r' ∧ b = j
  · rw [if_pos h1, if_neg (fun z => h (z.1.symm.trans h1.1)), if_pos h1]
  · rw [if_neg h1, if_neg h1]
def mT (w : Hp) (t : Int) : Int → Int := fun j => w 106 (60 * t + j)
def Tx (w : Hp) (t z : Int) : Prop := (0 ≤ t ∧ t < 4) ∧ w 105 t = z ∧ (0 ≤ z ∧ z ≤ 60) ∧ (∀ j : Int, 0 ≤ j → j < z → -128 ≤ mT w t j ∧ mT w t j ≤ 127)
theorem Tx.put {w : Hp} {t z : Int} (h : Tx w t z) {r i x : Int} (h5 : r ≠ 105) (h6 : r ≠ 106) : Tx (up w r i x) t z ∧ mT (up w r i x) t = mT w t := by
  have hm : mT (up w r i x) t = mT w t := by unfold mT; rw [up_ne (fun z => h6 z.symm)]
  obtain ⟨a, b, c, e⟩ := h
  exact ⟨⟨a, by rw [up_ne (fun z => h5 z.symm)]; exact b, c, by rw [hm]; exact e⟩, hm⟩
set_option maxRecDepth 20000 in
set_option maxHeartbeats 4000000 in
theorem c_Mod_byteAtG {w : Hp} {d : Nat} {t z i : Int} (hT : Stc w) (hX : Tx w t z) (hi : 0 ≤ i) : WP SH (d + 0) 159 0 [some (vR 100), some (vI t), some (vI i)] [] w (fun v w' => v = some (vI (bA (mT w t) z i)) ∧ w' = w) := by
  obtain ⟨ht, hz, hzz, hb⟩ := id hX
  refine wp_iload_n (pc' := 1) rfl rfl rfl ?_
  refine wp_aload_n (pc' := 2) rfl rfl rfl (by decide) ?_
  refine wp_getR (r' := 105) (ci := 10) (k0 := 8) (pc' := 5) rfl rfl (by decide) (by first | assumption | rfl) (hT.get 103 rfl) ?_
  refine wp_iload_n (pc' := 6) rfl rfl rfl ?_
  refine wp_iaload (pc' := 7) rfl rfl (by first | assumption | rfl) (by omega) ?_
  refine wp_icmp_ge (pc' := 10) (pt := 24) rfl rfl rfl (fun q_1 => ?_) (fun q_1 => ?_)
  · skip
    refine wp_iconst (a := 0) (pc' := 25) rfl rfl rfl ?_
    refine wp_ret rfl rfl rfl ?_
    unfold bA
    first
    | (rw [if_pos (show i < z by omega)]; exact ⟨rfl, rfl⟩)
    | (rw [if_neg (show ¬ i < z by omega)]; exact ⟨rfl, rfl⟩)
  · skip
    refine wp_aload_n (pc' := 11) rfl rfl rfl (by decide) ?_
    refine wp_getR (r' := 106) (ci := 10) (k0 := 9) (pc' := 14) rfl rfl (by decide) (by first | assumption | rfl) (hT.get 104 rfl) ?_
    refine wp_bipush (a := 60) (pc' := 16) rfl rfl rfl ?_
    refine wp_iload_n (pc' := 17) rfl rfl rfl ?_
    refine wp_imul (pc' := 18) rfl rfl (by first | exact w32_id (by omega) (by omega) | rfl) ?_
    refine wp_iload_n (pc' := 19) rfl rfl rfl ?_
    refine wp_iadd (pc' := 20) rfl rfl (by first | exact w32_id (by omega) (by omega) | rfl) ?_
    refine wp_baload (pc' := 21) rfl rfl (by first | assumption | rfl) rfl (by omega) ?_
    refine wp_goto (pc' := 25) rfl rfl ?_
    refine wp_ret rfl rfl rfl ?_
    unfold bA
    first
    | (rw [if_pos (show i < z by omega)]; exact ⟨rfl, rfl⟩)
    | (rw [if_neg (show ¬ i < z by omega)]; exact ⟨rfl, rfl⟩)
set_option maxRecDepth 20000 in
set_option maxHeartbeats 4000000 in
theorem c_Mod_kindBy {w : Hp} {d : Nat} {b : Int} : WP SH (d + 0) 160 0 [some (vI b)] [] w (fun v w' => v = some (vI (if kd b = -1 then -9 else kd b)) ∧ w' = w) := by
  refine wp_iload_n (pc' := 1) rfl rfl rfl ?_
  refine wp_swE (102) (pt := 88) rfl (by decide) rfl rfl (fun q_1 => ?_) (fun q_1 => ?_)
  · skip
    refine wp_iconst (a := 0) (pc' := 89) rfl rfl rfl ?_
    refine wp_ret rfl rfl rfl ?_
    refine ⟨congrArg (fun z => some (vI z)) ?_, rfl⟩
    unfold kd
    (repeat' split) <;> omega
  refine wp_swE (103) (pt := 94) rfl (by decide) rfl rfl (fun q_2 => ?_) (fun q_2 => ?_)
  · skip
    refine wp_iconst (a := 3) (pc' := 95) rfl rfl rfl ?_
    refine wp_ret rfl rfl rfl ?_
    refine ⟨congrArg (fun z => some (vI z)) ?_, rfl⟩
    unfold kd
    (repeat' split) <;> omega
  refine wp_swE (104) (pt := 98) rfl (by decide) rfl rfl (fun q_3 => ?_) (fun q_3 => ?_)
  · skip
    refine wp_iconst (a := 5) (pc' := 99) rfl rfl rfl ?_
    refine wp_ret rfl rfl rfl ?_
    refine ⟨congrArg (fun z => some (vI z)) ?_, rfl⟩
    unfold kd
    (repeat' split) <;> omega
  refine wp_swE (105) (pt := 100) rfl (by decide) rfl rfl (fun q_4 => ?_) (fun q_4 => ?_)
  · skip
    refine wp_bipush (a := -9) (pc' := 102) rfl rfl rfl ?_
    refine wp_ret rfl rfl rfl ?_
    refine ⟨congrArg (fun z => some (vI z)) ?_, rfl⟩
    unfold kd
    (repeat' split) <;> omega
  refine wp_swE (106) (pt := 100) rfl (by decide) rfl rfl (fun q_5 => ?_) (fun q_5 => ?_)
  · skip
    refine wp_bipush (a := -9) (pc' := 102) rfl rfl rfl ?_
    refine wp_ret rfl rfl rfl ?_
    refine ⟨congrArg (fun z => some (vI z)) ?_, rfl⟩
    unfold kd
    (repeat' split) <;> omega
  refine wp_swE (107) (pt := 100) rfl (by decide) rfl rfl (fun q_6 => ?_) (fun q_6 => ?_)
  · skip
    refine wp_bipush (a := -9) (pc' := 102) rfl rfl rfl ?_
    refine wp_ret rfl rfl rfl ?_
    refine ⟨congrArg (fun z => some (vI z)) ?_, rfl⟩
    unfold kd
    (repeat' split) <;> omega
  refine wp_swE (108) (pt := 100) rfl (by decide) rfl rfl (fun q_7 => ?_) (fun q_7 => ?_)
  · skip
    refine wp_bipush (a := -9) (pc' := 102) rfl rfl rfl ?_
    refine wp_ret rfl rfl rfl ?_
    refine ⟨congrArg (fun z => some (vI z)) ?_, rfl⟩
    unfold kd
    (repeat' split) <;> omega
  refine wp_swE (109) (pt := 96) rfl (by decide) rfl rfl (fun q_8 => ?_) (fun q_8 => ?_)
  · skip
    refine wp_iconst (a := 4) (pc' := 97) rfl rfl rfl ?_
    refine wp_ret rfl rfl rfl ?_
    refine ⟨congrArg (fun z => some (vI z)) ?_, rfl⟩
    unfold kd
    (repeat' split) <;> omega
  refine wp_swE (110) (pt := 100) rfl (by decide) rfl rfl (fun q_9 => ?_) (fun q_9 => ?_)
  · skip
    refine wp_bipush (a := -9) (pc' := 102) rfl rfl rfl ?_
    refine wp_ret rfl rfl rfl ?_
    refine ⟨congrArg (fun z => some (vI z)) ?_, rfl⟩
    unfold kd
    (repeat' split) <;> omega
  refine wp_swE (111) (pt := 100) rfl (by decide) rfl rfl (fun q_10 => ?_) (fun q_10 => ?_)
  · skip
    refine wp_bipush (a := -9) (pc' := 102) rfl rfl rfl ?_
    refine wp_ret rfl rfl rfl ?_
    refine ⟨congrArg (fun z => some (vI z)) ?_, rfl⟩
    unfold kd
    (repeat' split) <;> omega
  refine wp_swE (112) (pt := 100) rfl (by decide) rfl rfl (fun q_11 => ?_) (fun q_11 => ?_)
  · skip
    refine wp_bipush (a := -9) (pc' := 102) rfl rfl rfl ?_
    refine wp_ret rfl rfl rfl ?_
    refine ⟨congrArg (fun z => some (vI z)) ?_, rfl⟩
    unfold kd
    (repeat' split) <;> omega
  refine wp_swE (113) (pt := 100) rfl (by decide) rfl rfl (fun q_12 => ?_) (fun q_12 => ?_)
  · skip
    refine wp_bipush (a := -9) (pc' := 102) rfl rfl rfl ?_
    refine wp_ret rfl rfl rfl ?_
    refine ⟨congrArg (fun z => some (vI z)) ?_, rfl⟩
    unfold kd
    (repeat' split) <;> omega
  refine wp_swE (114) (pt := 100) rfl (by decide) rfl rfl (fun q_13 => ?_) (fun q_13 => ?_)
  · skip
    refine wp_bipush (a := -9) (pc' := 102) rfl rfl rfl ?_
    refine wp_ret rfl rfl rfl ?_
    refine ⟨congrArg (fun z => some (vI z)) ?_, rfl⟩
    unfold kd
    (repeat' split) <;> omega
  refine wp_swE (115) (pt := 100) rfl (by decide) rfl rfl (fun q_14 => ?_) (fun q_14 => ?_)
  · skip
    refine wp_bipush (a := -9) (pc' := 102) rfl rfl rfl ?_
    refine wp_ret rfl rfl rfl ?_
    refine ⟨congrArg (fun z => some (vI z)) ?_, rfl⟩
    unfold kd
    (repeat' split) <;> omega
  refine wp_swE (116) (pt := 100) rfl (by decide) rfl rfl (fun q_15 => ?_) (fun q_15 => ?_)
  · skip
    refine wp_bipush (a := -9) (pc' := 102) rfl rfl rfl ?_
    refine wp_ret rfl rfl rfl ?_
    refine ⟨congrArg (fun z => some (vI z)) ?_, rfl⟩
    unfold kd
    (repeat' split) <;> omega
  refine wp_swE (117) (pt := 100) rfl (by decide) rfl rfl (fun q_16 => ?_) (fun q_16 => ?_)
  · skip
    refine wp_bipush (a := -9) (pc' := 102) rfl rfl rfl ?_
    refine wp_ret rfl rfl rfl ?_
    refine ⟨congrArg (fun z => some (vI z)) ?_, rfl⟩
    unfold kd
    (repeat' split) <;> omega
  refine wp_swE (118) (pt := 90) rfl (by decide) rfl rfl (fun q_17 => ?_) (fun q_17 => ?_)
  · skip
    refine wp_iconst (a := 1) (pc' := 91) rfl rfl rfl ?_
    refine wp_ret rfl rfl rfl ?_
    refine ⟨congrArg (fun z => some (vI z)) ?_, rfl⟩
    unfold kd
    (repeat' split) <;> omega
  refine wp_swE (119) (pt := 92) rfl (by decide) rfl rfl (fun q_18 => ?_) (fun q_18 => ?_)
  · skip
    refine wp_iconst (a := 2) (pc' := 93) rfl rfl rfl ?_
    refine wp_ret rfl rfl rfl ?_
    refine ⟨congrArg (fun z => some (vI z)) ?_, rfl⟩
    unfold kd
    (repeat' split) <;> omega
  refine wp_swOut (pc' := 100) rfl (by omega) rfl ?_
  refine wp_bipush (a := -9) (pc' := 102) rfl rfl rfl ?_
  refine wp_ret rfl rfl rfl ?_
  refine ⟨congrArg (fun z => some (vI z)) ?_, rfl⟩
  unfold kd
  (repeat' split) <;> omega
set_option maxRecDepth 20000 in
set_option maxHeartbeats 4000000 in
theorem c_Mod_figure {w : Hp} {d : Nat} {t z P lo hi : Int} (hT : Stc w) (hX : Tx w t z) (hP : 0 ≤ P ∧ P ≤ 1000) (hlo : 0 ≤ lo) : WP SH (d + 1) 161 0 [some (vR 100), some (vI t), some (vI lo), some (vI hi), none] [] (up w 100 17 P) (fun v w' => v = some (vI (if fg (mT w t) z P lo hi = -1 then -9 else fg (mT w t) z P lo hi)) ∧ w' = up w 100 17 (if fg (mT w t) z P lo hi = -1 then P else P + 1)) := by
  have hT1 : Stc (up w 100 17 P) := hT.putF (by decide)
  have hX1 := hX.put (r := 100) (i := 17) (x := P) (by decide) (by decide)
  refine wp_aload_n (pc' := 1) rfl rfl rfl (by decide) ?_
  refine wp_iload_n (pc' := 2) rfl rfl rfl ?_
  refine wp_aload_n (pc' := 3) rfl rfl rfl (by decide) ?_
  refine wp_getI (ci := 10) (k0 := 17) (pc' := 6) rfl rfl (by decide) (by first | assumption | rfl) ?_
  refine wp_call (pc' := 9) rfl rfl rfl rfl rfl ⟨Nat.le_of_ble_eq_true rfl, Nat.le_of_ble_eq_true rfl, Nat.le_of_ble_eq_true rfl, Nat.le_of_ble_eq_true rfl, Nat.le_of_ble_eq_true rfl⟩ rfl (c_Mod_byteAtG hT1 hX1.1 (by rw [up_eq]; exact hP.1)) ?_
  intro v1 w9 hq1
  rw [hq1.1, hq1.2]
  clear hq1 v1 w9
  rw [hX1.2, up_eq]
  have hbb : -128 ≤ bA (mT w t) z P ∧ bA (mT w t) z P ≤ 127 := by
    unfold bA
    split
    · exact hX.2.2.2 P hP.1 (by assumption)
    · omega
  dsimp only [Option.toList, List.cons_append, List.nil_append, List.append_nil]
  refine wp_bipush (a := 48) (pc' := 11) rfl rfl rfl ?_
  refine wp_isub (pc' := 12) rfl rfl (by first | exact w32_id (by omega) (by omega) | rfl) ?_
  refine wp_istore (pc' := 14) rfl rfl (Nat.le_of_ble_eq_true rfl) rfl ?_
  dsimp only [lset, lset2, List.set, List.getElem?_cons_zero, List.getElem?_cons_succ]
  refine wp_iload (pc' := 16) rfl rfl rfl ?_
  refine wp_iload_n (pc' := 17) rfl rfl rfl ?_
  refine wp_iload_n (pc' := 18) rfl rfl rfl ?_
  refine wp_call (pc' := 21) rfl rfl rfl rfl rfl ⟨Nat.le_of_ble_eq_true rfl, Nat.le_of_ble_eq_true rfl, Nat.le_of_ble_eq_true rfl, Nat.le_of_ble_eq_true rfl, Nat.le_of_ble_eq_true rfl⟩ rfl (c_Mod_in) ?_
  rintro v1 w9 ⟨hw9, ⟨hv1, hin⟩ | ⟨hv1, hin⟩⟩
  · skip
    rw [hv1, hw9]
    clear hv1 hw9 v1 w9
    dsimp only [Option.toList, List.cons_append, List.nil_append, List.append_nil]
    refine wp_if_ne (pc' := 24) (pt := 27) rfl rfl rfl (fun q_1 => ?_) (fun q_1 => absurd (by decide) q_1)
    refine wp_aload_n (pc' := 28) rfl rfl rfl (by decide) ?_
    refine wp_dupR (pc' := 29) rfl rfl ?_
    refine wp_getI (ci := 10) (k0 := 17) (pc' := 32) rfl rfl (by decide) (by first | assumption | rfl) ?_
    rw [up_eq]
    refine wp_iconst (a := 1) (pc' := 33) rfl rfl rfl ?_
    refine wp_iadd (pc' := 34) rfl rfl (by first | exact w32_id (by omega) (by omega) | rfl) ?_
    refine wp_putI (ci := 10) (k0 := 17) (pc' := 37) rfl rfl (by decide) (by first | assumption | rfl) ?_
    rw [up_up]
    refine wp_iload (pc' := 39) rfl rfl rfl ?_
    refine wp_ret rfl rfl rfl ?_
    unfold fg
    first
    | (rw [if_neg (show ¬ (lo ≤ bA (mT w t) z P - 48 ∧ bA (mT w t) z P - 48 ≤ hi) by omega), if_pos rfl, if_pos rfl]; exact ⟨rfl, rfl⟩)
    | (rw [if_pos (show lo ≤ bA (mT w t) z P - 48 ∧ bA (mT w t) z P - 48 ≤ hi by omega), if_neg (by omega), if_neg (by omega)]; exact ⟨rfl, rfl⟩)
  · skip
    rw [hv1, hw9]
    clear hv1 hw9 v1 w9
    dsimp only [Option.toList, List.cons_append, List.nil_append, List.append_nil]
    refine wp_if_ne (pc' := 24) (pt := 27) rfl rfl rfl (fun q_2 => absurd q_2 (by decide)) (fun q_2 => ?_)
    refine wp_bipush (a := -9) (pc' := 26) rfl rfl rfl ?_
    refine wp_ret rfl rfl rfl ?_
    unfold fg
    first
    | (rw [if_neg (show ¬ (lo ≤ bA (mT w t) z P - 48 ∧ bA (mT w t) z P - 48 ≤ hi) by omega), if_pos rfl, if_pos rfl]; exact ⟨rfl, rfl⟩)
    | (rw [if_pos (show lo ≤ bA (mT w t) z P - 48 ∧ bA (mT w t) z P - 48 ≤ hi by omega), if_neg (by omega), if_neg (by omega)]; exact ⟨rfl, rfl⟩)
