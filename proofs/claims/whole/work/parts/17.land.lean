/-! Land: the geometry -/
theorem inc_id {a n : Int} (h1 : -2147483648 ≤ a + n) (h2 : a + n < 2147483648) (hn : w32 n = n := by decide) : w32 (a + w32 n) = a + n := by
  rw [hn]
  exact w32_id h1 h2
def sBeside (c l cell way : Int) : Int := if way = 0 then cell else if way = 1 then (if 0 < cell / c then cell - c else -1) else if way = 2 then (if cell % c < c - 1 then cell + 1 else -1) else if way = 3 then (if cell / c < l - 1 then cell + c else -1) else if way = 4 then (if 0 < cell % c then cell - 1 else -1) else -1
set_option maxRecDepth 20000 in
set_option maxHeartbeats 4000000 in
theorem c_Land_beside {w : Hp} {d : Nat} {cell way : Int} (hc : 3 ≤ w 3 0 ∧ w 3 0 ≤ 5) (hl : 3 ≤ w 3 1 ∧ w 3 1 ≤ 5) (h0 : 0 ≤ cell) (h1 : cell < 25) : WP SH d 31 0 [some (vR 3), some (vI cell), some (vI way), none, none] [] w (fun v w' => v = some (vI (sBeside (w 3 0) (w 3 1) cell way)) ∧ w' = w) := by
  refine wp_aload_n (pc' := 1) rfl rfl rfl (by decide) ?_
  refine wp_getI (ci := 3) (k0 := 0) (pc' := 4) rfl rfl (by decide) (by first | assumption | rfl) ?_
  refine wp_iconst (a := 1) (pc' := 5) rfl rfl rfl ?_
  refine wp_icmp_ge (pc' := 8) (pt := 10) rfl rfl rfl (fun q_1 => ?_) (fun q_1 => ?_)
  · skip
    refine wp_iload_n (pc' := 11) rfl rfl rfl ?_
    refine wp_aload_n (pc' := 12) rfl rfl rfl (by decide) ?_
    refine wp_getI (ci := 3) (k0 := 0) (pc' := 15) rfl rfl (by decide) (by first | assumption | rfl) ?_
    refine wp_idiv (pc' := 16) rfl rfl (by omega) (by first | exact iDiv_pos (by omega) (by omega) (by omega) | rfl) ?_
    refine wp_istore_n (pc' := 17) rfl rfl (Nat.le_of_ble_eq_true rfl) rfl ?_
    dsimp only [lset, lset2, List.set, List.getElem?_cons_zero, List.getElem?_cons_succ]
    refine wp_iload_n (pc' := 18) rfl rfl rfl ?_
    refine wp_aload_n (pc' := 19) rfl rfl rfl (by decide) ?_
    refine wp_getI (ci := 3) (k0 := 0) (pc' := 22) rfl rfl (by decide) (by first | assumption | rfl) ?_
    refine wp_irem (pc' := 23) rfl rfl (by omega) (by first | exact iRem_pos (by omega) (by omega) (by omega) | rfl) ?_
    refine wp_istore (pc' := 25) rfl rfl (Nat.le_of_ble_eq_true rfl) rfl ?_
    dsimp only [lset, lset2, List.set, List.getElem?_cons_zero, List.getElem?_cons_succ]
    refine wp_iload_n (pc' := 26) rfl rfl rfl ?_
    refine wp_swE (0) (pt := 60) rfl (by decide) rfl rfl (fun q_2 => ?_) (fun q_2 => ?_)
    · skip
      refine wp_iload_n (pc' := 61) rfl rfl rfl ?_
      refine wp_ret rfl rfl rfl ?_
      refine ⟨congrArg (fun z => some (vI z)) ?_, rfl⟩
      unfold sBeside
      (repeat' split) <;> omega
    refine wp_swE (1) (pt := 62) rfl (by decide) rfl rfl (fun q_3 => ?_) (fun q_3 => ?_)
    · skip
      refine wp_iload_n (pc' := 63) rfl rfl rfl ?_
      refine wp_if_le (pc' := 66) (pt := 75) rfl rfl rfl (fun q_4 => ?_) (fun q_4 => ?_)
      · skip
        refine wp_iconst (a := -1) (pc' := 76) rfl rfl rfl ?_
        refine wp_ret rfl rfl rfl ?_
        refine ⟨congrArg (fun z => some (vI z)) ?_, rfl⟩
        unfold sBeside
        (repeat' split) <;> omega
      · skip
        refine wp_iload_n (pc' := 67) rfl rfl rfl ?_
        refine wp_aload_n (pc' := 68) rfl rfl rfl (by decide) ?_
        refine wp_getI (ci := 3) (k0 := 0) (pc' := 71) rfl rfl (by decide) (by first | assumption | rfl) ?_
        refine wp_isub (pc' := 72) rfl rfl (by first | exact w32_id (by omega) (by omega) | rfl) ?_
        refine wp_goto (pc' := 76) rfl rfl ?_
        refine wp_ret rfl rfl rfl ?_
        refine ⟨congrArg (fun z => some (vI z)) ?_, rfl⟩
        unfold sBeside
        (repeat' split) <;> omega
    refine wp_swE (2) (pt := 77) rfl (by decide) rfl rfl (fun q_5 => ?_) (fun q_5 => ?_)
    · skip
      refine wp_iload (pc' := 79) rfl rfl rfl ?_
      refine wp_aload_n (pc' := 80) rfl rfl rfl (by decide) ?_
      refine wp_getI (ci := 3) (k0 := 0) (pc' := 83) rfl rfl (by decide) (by first | assumption | rfl) ?_
      refine wp_iconst (a := 1) (pc' := 84) rfl rfl rfl ?_
      refine wp_isub (pc' := 85) rfl rfl (by first | exact w32_id (by omega) (by omega) | rfl) ?_
      refine wp_icmp_ge (pc' := 88) (pt := 94) rfl rfl rfl (fun q_6 => ?_) (fun q_6 => ?_)
      · skip
        refine wp_iconst (a := -1) (pc' := 95) rfl rfl rfl ?_
        refine wp_ret rfl rfl rfl ?_
        refine ⟨congrArg (fun z => some (vI z)) ?_, rfl⟩
        unfold sBeside
        (repeat' split) <;> omega
      · skip
        refine wp_iload_n (pc' := 89) rfl rfl rfl ?_
        refine wp_iconst (a := 1) (pc' := 90) rfl rfl rfl ?_
        refine wp_iadd (pc' := 91) rfl rfl (by first | exact w32_id (by omega) (by omega) | rfl) ?_
        refine wp_goto (pc' := 95) rfl rfl ?_
        refine wp_ret rfl rfl rfl ?_
        refine ⟨congrArg (fun z => some (vI z)) ?_, rfl⟩
        unfold sBeside
        (repeat' split) <;> omega
    refine wp_swE (3) (pt := 96) rfl (by decide) rfl rfl (fun q_7 => ?_) (fun q_7 => ?_)
    · skip
      refine wp_iload_n (pc' := 97) rfl rfl rfl ?_
      refine wp_aload_n (pc' := 98) rfl rfl rfl (by decide) ?_
      refine wp_getI (ci := 3) (k0 := 1) (pc' := 101) rfl rfl (by decide) (by first | assumption | rfl) ?_
      refine wp_iconst (a := 1) (pc' := 102) rfl rfl rfl ?_
      refine wp_isub (pc' := 103) rfl rfl (by first | exact w32_id (by omega) (by omega) | rfl) ?_
      refine wp_icmp_ge (pc' := 106) (pt := 115) rfl rfl rfl (fun q_8 => ?_) (fun q_8 => ?_)
      · skip
        refine wp_iconst (a := -1) (pc' := 116) rfl rfl rfl ?_
        refine wp_ret rfl rfl rfl ?_
        refine ⟨congrArg (fun z => some (vI z)) ?_, rfl⟩
        unfold sBeside
        (repeat' split) <;> omega
      · skip
        refine wp_iload_n (pc' := 107) rfl rfl rfl ?_
        refine wp_aload_n (pc' := 108) rfl rfl rfl (by decide) ?_
        refine wp_getI (ci := 3) (k0 := 0) (pc' := 111) rfl rfl (by decide) (by first | assumption | rfl) ?_
        refine wp_iadd (pc' := 112) rfl rfl (by first | exact w32_id (by omega) (by omega) | rfl) ?_
        refine wp_goto (pc' := 116) rfl rfl ?_
        refine wp_ret rfl rfl rfl ?_
        refine ⟨congrArg (fun z => some (vI z)) ?_, rfl⟩
        unfold sBeside
        (repeat' split) <;> omega
    refine wp_swE (4) (pt := 117) rfl (by decide) rfl rfl (fun q_9 => ?_) (fun q_9 => ?_)
    · skip
      refine wp_iload (pc' := 119) rfl rfl rfl ?_
      refine wp_if_le (pc' := 122) (pt := 128) rfl rfl rfl (fun q_10 => ?_) (fun q_10 => ?_)
      · skip
        refine wp_iconst (a := -1) (pc' := 129) rfl rfl rfl ?_
        refine wp_ret rfl rfl rfl ?_
        refine ⟨congrArg (fun z => some (vI z)) ?_, rfl⟩
        unfold sBeside
        (repeat' split) <;> omega
      · skip
        refine wp_iload_n (pc' := 123) rfl rfl rfl ?_
        refine wp_iconst (a := 1) (pc' := 124) rfl rfl rfl ?_
        refine wp_isub (pc' := 125) rfl rfl (by first | exact w32_id (by omega) (by omega) | rfl) ?_
        refine wp_goto (pc' := 129) rfl rfl ?_
        refine wp_ret rfl rfl rfl ?_
        refine ⟨congrArg (fun z => some (vI z)) ?_, rfl⟩
        unfold sBeside
        (repeat' split) <;> omega
    refine wp_swOut (pc' := 130) rfl (by omega) rfl ?_
    refine wp_iconst (a := -1) (pc' := 131) rfl rfl rfl ?_
    refine wp_ret rfl rfl rfl ?_
    refine ⟨congrArg (fun z => some (vI z)) ?_, rfl⟩
    unfold sBeside
    (repeat' split) <;> omega
  · skip
    refine wp_iconst (a := -1) (pc' := 9) rfl rfl rfl ?_
    refine wp_ret rfl rfl rfl ?_
    refine ⟨congrArg (fun z => some (vI z)) ?_, rfl⟩
    unfold sBeside
    (repeat' split) <;> omega
