/-! Land: the geometry, gains -/
theorem inc_id {a n : Int} (h1 : -2147483648 ≤ a + n) (h2 : a + n < 2147483648) (hn : w32 n = n := by decide) : w32 (a + w32 n) = a + n := by
  rw [hn]
  exact w32_id h1 h2
def sBeside (c l cell way : Int) : Int := if way = 0 then cell else if way = 1 then (if 0 < cell / c then cell - c else -1) else if way = 2 then (if cell % c < c - 1 then cell + 1 else -1) else if way = 3 then (if cell / c < l - 1 then cell + c else -1) else if way = 4 then (if 0 < cell % c then cell - 1 else -1) else -1
def sAbs (x : Int) : Int := if 0 ≤ x then x else -x
theorem abs_id {a : Int} (h : -2147483648 < a) (h2 : a < 2147483648) : (if 0 ≤ a then a else w32 (0 - a)) = sAbs a := by
  unfold sAbs
  split
  · rfl
  · rw [w32_id (by omega) (by omega)]; omega
def sFar (c a b : Int) : Int := sAbs (a % c - b % c) + sAbs (a / c - b / c)
def sGainOf (k away b : Int) : Int := if k = 1 then (if b ≠ 0 then away + 3 else away) else if k = 2 then 9 - away else if k = 3 then 0 else if k = 4 then (if away = 0 then 0 else 2 * (9 - away)) else if k = 5 then (if away = 1 then 5 else 0) else away
def sNorth (c h cell : Int) : Int := if cell / c < h / c then 1 else 0
/-- what one of a kind with a house gains by a cell -/
def sG (c k h cell : Int) : Int := sGainOf k (sFar c cell h) (sNorth c h cell)
/-- a land of c columns, l lines -/
def CL (c l : Int) : Prop := 3 ≤ c ∧ c ≤ 5 ∧ 3 ≤ l ∧ l ≤ 5
def Cel (c l x : Int) : Prop := 0 ≤ x ∧ x < c * l
theorem Cel.dm {c l x : Int} (h : CL c l) (hx : Cel c l x) : 0 ≤ x / c ∧ x / c < l ∧ 0 ≤ x % c ∧ x % c < c ∧ 0 ≤ x ∧ x < 25 := by
  obtain ⟨h1, h2, h3, h4⟩ := h
  obtain ⟨h5, h6⟩ := hx
  have a1 := Int.ediv_nonneg h5 (by omega : 0 ≤ c)
  have a2 : x / c < l := Int.ediv_lt_of_lt_mul (by omega) (by rw [Int.mul_comm]; exact h6)
  have a3 := Int.emod_nonneg x (by omega : c ≠ 0)
  have a4 := Int.emod_lt_of_pos x (by omega : 0 < c)
  have a5 : c * l ≤ 5 * 5 := Int.mul_le_mul h2 h4 (by omega) (by omega)
  exact ⟨a1, a2, a3, a4, h5, by omega⟩
theorem CL.mul {c l : Int} (h : CL c l) : 9 ≤ c * l ∧ c * l ≤ 25 := by
  obtain ⟨h1, h2, h3, h4⟩ := h
  have a5 : c * l ≤ 5 * 5 := Int.mul_le_mul h2 h4 (by omega) (by omega)
  have a6 : 3 * 3 ≤ c * l := Int.mul_le_mul h1 h3 (by omega) (by omega)
  omega
theorem sFar_in {c l a b : Int} (h : CL c l) (ha : Cel c l a) (hb : Cel c l b) : 0 ≤ sFar c a b ∧ sFar c a b ≤ 8 := by
  have h1 := ha.dm h
  have h2 := hb.dm h
  obtain ⟨c1, c2, c3, c4⟩ := h
  unfold sFar sAbs
  constructor <;> (repeat' split) <;> omega
theorem sFar_comm (c a b : Int) : sFar c a b = sFar c b a := by
  unfold sFar sAbs
  (repeat' split) <;> omega
theorem sG_in {c l k h cell : Int} (hc : CL c l) (h1 : Cel c l h) (h2 : Cel c l cell) : 0 ≤ sG c k h cell ∧ sG c k h cell ≤ 18 := by
  have h3 := sFar_in hc h2 h1
  unfold sG sGainOf
  constructor <;> (repeat' split) <;> omega
set_option maxRecDepth 20000 in
set_option maxHeartbeats 4000000 in
theorem c_Land_beside {w : Hp} {d : Nat} {cell way : Int} (hc : CL (w 3 0) (w 3 1)) (hx : Cel (w 3 0) (w 3 1) cell) : WP SH (d + 0) 31 0 [some (vR 3), some (vI cell), some (vI way), none, none] [] w (fun v w' => v = some (vI (sBeside (w 3 0) (w 3 1) cell way)) ∧ w' = w) := by
  have hdm := hx.dm hc
  obtain ⟨hc1, hc2, hc3, hc4⟩ := hc
  refine wp_aload_n (pc' := 1) rfl rfl rfl (by decide) ?_
  refine wp_getI (ci := 3) (k0 := 0) (pc' := 4) rfl rfl (by decide) (by first | assumption | rfl) ?_
  refine wp_iconst (a := 1) (pc' := 5) rfl rfl rfl ?_
  refine wp_icmp_ge (pc' := 8) (pt := 10) rfl rfl rfl (fun q_1 => ?_) (fun q_1 => ?_)
  · skip
    refine wp_iload_n (pc' := 11) rfl rfl rfl ?_
    refine wp_aload_n (pc' := 12) rfl rfl rfl (by decide) ?_
    refine wp_getI (ci := 3) (k0 := 0) (pc' := 15) rfl rfl (by decide) (by first | assumption | rfl) ?_
    refine wp_idiv (pc' := 16) rfl rfl (by omega) (by first | exact iDiv_pos (by omega) (by omega) (by omega) | rfl) ?_
    refine wp_istore_n (pc' := 17) rfl rfl (Nat.le_of_ble_eq_true rfl) rfl ?_
    dsimp only [lset, lset2, List.set, List.getElem?_cons_zero, List.getElem?_cons_succ]
    refine wp_iload_n (pc' := 18) rfl rfl rfl ?_
    refine wp_aload_n (pc' := 19) rfl rfl rfl (by decide) ?_
    refine wp_getI (ci := 3) (k0 := 0) (pc' := 22) rfl rfl (by decide) (by first | assumption | rfl) ?_
    refine wp_irem (pc' := 23) rfl rfl (by omega) (by first | exact iRem_pos (by omega) (by omega) (by omega) | rfl) ?_
    refine wp_istore (pc' := 25) rfl rfl (Nat.le_of_ble_eq_true rfl) rfl ?_
    dsimp only [lset, lset2, List.set, List.getElem?_cons_zero, List.getElem?_cons_succ]
    refine wp_iload_n (pc' := 26) rfl rfl rfl ?_
    refine wp_swE (0) (pt := 60) rfl (by decide) rfl rfl (fun q_2 => ?_) (fun q_2 => ?_)
    · skip
      refine wp_iload_n (pc' := 61) rfl rfl rfl ?_
      refine wp_ret rfl rfl rfl ?_
      refine ⟨congrArg (fun z => some (vI z)) ?_, rfl⟩
      unfold sBeside
      (repeat' split) <;> omega
    refine wp_swE (1) (pt := 62) rfl (by decide) rfl rfl (fun q_3 => ?_) (fun q_3 => ?_)
    · skip
      refine wp_iload_n (pc' := 63) rfl rfl rfl ?_
      refine wp_if_le (pc' := 66) (pt := 75) rfl rfl rfl (fun q_4 => ?_) (fun q_4 => ?_)
      · skip
        refine wp_iconst (a := -1) (pc' := 76) rfl rfl rfl ?_
        refine wp_ret rfl rfl rfl ?_
        refine ⟨congrArg (fun z => some (vI z)) ?_, rfl⟩
        unfold sBeside
        (repeat' split) <;> omega
      · skip
        refine wp_iload_n (pc' := 67) rfl rfl rfl ?_
        refine wp_aload_n (pc' := 68) rfl rfl rfl (by decide) ?_
        refine wp_getI (ci := 3) (k0 := 0) (pc' := 71) rfl rfl (by decide) (by first | assumption | rfl) ?_
        refine wp_isub (pc' := 72) rfl rfl (by first | exact w32_id (by omega) (by omega) | rfl) ?_
        refine wp_goto (pc' := 76) rfl rfl ?_
        refine wp_ret rfl rfl rfl ?_
        refine ⟨congrArg (fun z => some (vI z)) ?_, rfl⟩
        unfold sBeside
        (repeat' split) <;> omega
    refine wp_swE (2) (pt := 77) rfl (by decide) rfl rfl (fun q_5 => ?_) (fun q_5 => ?_)
    · skip
      refine wp_iload (pc' := 79) rfl rfl rfl ?_
      refine wp_aload_n (pc' := 80) rfl rfl rfl (by decide) ?_
      refine wp_getI (ci := 3) (k0 := 0) (pc' := 83) rfl rfl (by decide) (by first | assumption | rfl) ?_
      refine wp_iconst (a := 1) (pc' := 84) rfl rfl rfl ?_
      refine wp_isub (pc' := 85) rfl rfl (by first | exact w32_id (by omega) (by omega) | rfl) ?_
      refine wp_icmp_ge (pc' := 88) (pt := 94) rfl rfl rfl (fun q_6 => ?_) (fun q_6 => ?_)
      · skip
        refine wp_iconst (a := -1) (pc' := 95) rfl rfl rfl ?_
        refine wp_ret rfl rfl rfl ?_
        refine ⟨congrArg (fun z => some (vI z)) ?_, rfl⟩
        unfold sBeside
        (repeat' split) <;> omega
      · skip
        refine wp_iload_n (pc' := 89) rfl rfl rfl ?_
        refine wp_iconst (a := 1) (pc' := 90) rfl rfl rfl ?_
        refine wp_iadd (pc' := 91) rfl rfl (by first | exact w32_id (by omega) (by omega) | rfl) ?_
        refine wp_goto (pc' := 95) rfl rfl ?_
        refine wp_ret rfl rfl rfl ?_
        refine ⟨congrArg (fun z => some (vI z)) ?_, rfl⟩
        unfold sBeside
        (repeat' split) <;> omega
    refine wp_swE (3) (pt := 96) rfl (by decide) rfl rfl (fun q_7 => ?_) (fun q_7 => ?_)
    · skip
      refine wp_iload_n (pc' := 97) rfl rfl rfl ?_
      refine wp_aload_n (pc' := 98) rfl rfl rfl (by decide) ?_
      refine wp_getI (ci := 3) (k0 := 1) (pc' := 101) rfl rfl (by decide) (by first | assumption | rfl) ?_
      refine wp_iconst (a := 1) (pc' := 102) rfl rfl rfl ?_
      refine wp_isub (pc' := 103) rfl rfl (by first | exact w32_id (by omega) (by omega) | rfl) ?_
      refine wp_icmp_ge (pc' := 106) (pt := 115) rfl rfl rfl (fun q_8 => ?_) (fun q_8 => ?_)
      · skip
        refine wp_iconst (a := -1) (pc' := 116) rfl rfl rfl ?_
        refine wp_ret rfl rfl rfl ?_
        refine ⟨congrArg (fun z => some (vI z)) ?_, rfl⟩
        unfold sBeside
        (repeat' split) <;> omega
      · skip
        refine wp_iload_n (pc' := 107) rfl rfl rfl ?_
        refine wp_aload_n (pc' := 108) rfl rfl rfl (by decide) ?_
        refine wp_getI (ci := 3) (k0 := 0) (pc' := 111) rfl rfl (by decide) (by first | assumption | rfl) ?_
        refine wp_iadd (pc' := 112) rfl rfl (by first | exact w32_id (by omega) (by omega) | rfl) ?_
        refine wp_goto (pc' := 116) rfl rfl ?_
        refine wp_ret rfl rfl rfl ?_
        refine ⟨congrArg (fun z => some (vI z)) ?_, rfl⟩
        unfold sBeside
        (repeat' split) <;> omega
    refine wp_swE (4) (pt := 117) rfl (by decide) rfl rfl (fun q_9 => ?_) (fun q_9 => ?_)
    · skip
      refine wp_iload (pc' := 119) rfl rfl rfl ?_
      refine wp_if_le (pc' := 122) (pt := 128) rfl rfl rfl (fun q_10 => ?_) (fun q_10 => ?_)
      · skip
        refine wp_iconst (a := -1) (pc' := 129) rfl rfl rfl ?_
        refine wp_ret rfl rfl rfl ?_
        refine ⟨congrArg (fun z => some (vI z)) ?_, rfl⟩
        unfold sBeside
        (repeat' split) <;> omega
      · skip
        refine wp_iload_n (pc' := 123) rfl rfl rfl ?_
        refine wp_iconst (a := 1) (pc' := 124) rfl rfl rfl ?_
        refine wp_isub (pc' := 125) rfl rfl (by first | exact w32_id (by omega) (by omega) | rfl) ?_
        refine wp_goto (pc' := 129) rfl rfl ?_
        refine wp_ret rfl rfl rfl ?_
        refine ⟨congrArg (fun z => some (vI z)) ?_, rfl⟩
        unfold sBeside
        (repeat' split) <;> omega
    refine wp_swOut (pc' := 130) rfl (by omega) rfl ?_
    refine wp_iconst (a := -1) (pc' := 131) rfl rfl rfl ?_
    refine wp_ret rfl rfl rfl ?_
    refine ⟨congrArg (fun z => some (vI z)) ?_, rfl⟩
    unfold sBeside
    (repeat' split) <;> omega
  · skip
    refine wp_iconst (a := -1) (pc' := 9) rfl rfl rfl ?_
    refine wp_ret rfl rfl rfl ?_
    refine ⟨congrArg (fun z => some (vI z)) ?_, rfl⟩
    unfold sBeside
    (repeat' split) <;> omega
set_option maxRecDepth 20000 in
set_option maxHeartbeats 4000000 in
theorem c_Land_far {w : Hp} {d : Nat} {a b : Int} (hc : CL (w 3 0) (w 3 1)) (ha : Cel (w 3 0) (w 3 1) a) (hb : Cel (w 3 0) (w 3 1) b) : WP SH (d + 0) 30 0 [some (vR 3), some (vI a), some (vI b)] [] w (fun v w' => v = some (vI (sFar (w 3 0) a b)) ∧ w' = w) := by
  have hda := ha.dm hc
  have hdb := hb.dm hc
  have hab : 0 ≤ sAbs (a % w 3 0 - b % w 3 0) ∧ sAbs (a % w 3 0 - b % w 3 0) ≤ 8 ∧ 0 ≤ sAbs (a / w 3 0 - b / w 3 0) ∧ sAbs (a / w 3 0 - b / w 3 0) ≤ 8 := by
    obtain ⟨c1, c2, c3, c4⟩ := hc
    unfold sAbs
    refine ⟨?_, ?_, ?_, ?_⟩ <;> split <;> omega
  obtain ⟨hc1, hc2, hc3, hc4⟩ := hc
  refine wp_aload_n (pc' := 1) rfl rfl rfl (by decide) ?_
  refine wp_getI (ci := 3) (k0 := 0) (pc' := 4) rfl rfl (by decide) (by first | assumption | rfl) ?_
  refine wp_iconst (a := 1) (pc' := 5) rfl rfl rfl ?_
  refine wp_icmp_ge (pc' := 8) (pt := 10) rfl rfl rfl (fun q_1 => ?_) (fun q_1 => ?_)
  · skip
    refine wp_iload_n (pc' := 11) rfl rfl rfl ?_
    refine wp_aload_n (pc' := 12) rfl rfl rfl (by decide) ?_
    refine wp_getI (ci := 3) (k0 := 0) (pc' := 15) rfl rfl (by decide) (by first | assumption | rfl) ?_
    refine wp_irem (pc' := 16) rfl rfl (by omega) (by first | exact iRem_pos (by omega) (by omega) (by omega) | rfl) ?_
    refine wp_iload_n (pc' := 17) rfl rfl rfl ?_
    refine wp_aload_n (pc' := 18) rfl rfl rfl (by decide) ?_
    refine wp_getI (ci := 3) (k0 := 0) (pc' := 21) rfl rfl (by decide) (by first | assumption | rfl) ?_
    refine wp_irem (pc' := 22) rfl rfl (by omega) (by first | exact iRem_pos (by omega) (by omega) (by omega) | rfl) ?_
    refine wp_isub (pc' := 23) rfl rfl (by first | exact w32_id (by omega) (by omega) | rfl) ?_
    refine wp_abs (pc' := 26) rfl rfl (Nat.le_of_ble_eq_true rfl) (by first | exact abs_id (by omega) (by omega) | rfl) ?_
    refine wp_iload_n (pc' := 27) rfl rfl rfl ?_
    refine wp_aload_n (pc' := 28) rfl rfl rfl (by decide) ?_
    refine wp_getI (ci := 3) (k0 := 0) (pc' := 31) rfl rfl (by decide) (by first | assumption | rfl) ?_
    refine wp_idiv (pc' := 32) rfl rfl (by omega) (by first | exact iDiv_pos (by omega) (by omega) (by omega) | rfl) ?_
    refine wp_iload_n (pc' := 33) rfl rfl rfl ?_
    refine wp_aload_n (pc' := 34) rfl rfl rfl (by decide) ?_
    refine wp_getI (ci := 3) (k0 := 0) (pc' := 37) rfl rfl (by decide) (by first | assumption | rfl) ?_
    refine wp_idiv (pc' := 38) rfl rfl (by omega) (by first | exact iDiv_pos (by omega) (by omega) (by omega) | rfl) ?_
    refine wp_isub (pc' := 39) rfl rfl (by first | exact w32_id (by omega) (by omega) | rfl) ?_
    refine wp_abs (pc' := 42) rfl rfl (Nat.le_of_ble_eq_true rfl) (by first | exact abs_id (by omega) (by omega) | rfl) ?_
    refine wp_iadd (pc' := 43) rfl rfl (by first | exact w32_id (by omega) (by omega) | rfl) ?_
    refine wp_ret rfl rfl rfl ?_
    first | exact ⟨rfl, rfl⟩ | (exfalso; omega)
  · skip
    refine wp_iconst (a := 0) (pc' := 9) rfl rfl rfl ?_
    refine wp_ret rfl rfl rfl ?_
    first | exact ⟨rfl, rfl⟩ | (exfalso; omega)
set_option maxRecDepth 20000 in
set_option maxHeartbeats 4000000 in
theorem c_Land_liesNorth {w : Hp} {d : Nat} {i cell : Int} (hc : CL (w 3 0) (w 3 1)) (hi : 0 ≤ i ∧ i < 6) (hT : Stc w) (hx : Cel (w 3 0) (w 3 1) cell) (hh : Cel (w 3 0) (w 3 1) (w 5 i)) : WP SH (d + 0) 35 0 [some (vR 3), some (vI i), some (vI cell)] [] w (fun v w' => v = some (vI (sNorth (w 3 0) (w 5 i) cell)) ∧ w' = w) := by
  have hda := hx.dm hc
  have hdb := hh.dm hc
  obtain ⟨hc1, hc2, hc3, hc4⟩ := hc
  refine wp_aload_n (pc' := 1) rfl rfl rfl (by decide) ?_
  refine wp_getI (ci := 3) (k0 := 0) (pc' := 4) rfl rfl (by decide) (by first | assumption | rfl) ?_
  refine wp_if_le (pc' := 7) (pt := 31) rfl rfl rfl (fun q_1 => ?_) (fun q_1 => ?_)
  · skip
    refine wp_iconst (a := 0) (pc' := 32) rfl rfl rfl ?_
    refine wp_ret rfl rfl rfl ?_
    refine ⟨congrArg (fun z => some (vI z)) ?_, rfl⟩
    unfold sNorth
    (repeat' split) <;> omega
  · skip
    refine wp_iload_n (pc' := 8) rfl rfl rfl ?_
    refine wp_aload_n (pc' := 9) rfl rfl rfl (by decide) ?_
    refine wp_getI (ci := 3) (k0 := 0) (pc' := 12) rfl rfl (by decide) (by first | assumption | rfl) ?_
    refine wp_idiv (pc' := 13) rfl rfl (by omega) (by first | exact iDiv_pos (by omega) (by omega) (by omega) | rfl) ?_
    refine wp_aload_n (pc' := 14) rfl rfl rfl (by decide) ?_
    refine wp_getR (r' := 5) (ci := 3) (k0 := 8) (pc' := 17) rfl rfl (by decide) (by first | assumption | rfl) (hT.get 24 rfl) ?_
    refine wp_iload_n (pc' := 18) rfl rfl rfl ?_
    refine wp_iaload (pc' := 19) rfl rfl (by first | assumption | rfl) (by omega) ?_
    refine wp_aload_n (pc' := 20) rfl rfl rfl (by decide) ?_
    refine wp_getI (ci := 3) (k0 := 0) (pc' := 23) rfl rfl (by decide) (by first | assumption | rfl) ?_
    refine wp_idiv (pc' := 24) rfl rfl (by omega) (by first | exact iDiv_pos (by omega) (by omega) (by omega) | rfl) ?_
    refine wp_icmp_ge (pc' := 27) (pt := 31) rfl rfl rfl (fun q_2 => ?_) (fun q_2 => ?_)
    · skip
      refine wp_iconst (a := 0) (pc' := 32) rfl rfl rfl ?_
      refine wp_ret rfl rfl rfl ?_
      refine ⟨congrArg (fun z => some (vI z)) ?_, rfl⟩
      unfold sNorth
      (repeat' split) <;> omega
    · skip
      refine wp_iconst (a := 1) (pc' := 28) rfl rfl rfl ?_
      refine wp_goto (pc' := 32) rfl rfl ?_
      refine wp_ret rfl rfl rfl ?_
      refine ⟨congrArg (fun z => some (vI z)) ?_, rfl⟩
      unfold sNorth
      (repeat' split) <;> omega
set_option maxRecDepth 20000 in
set_option maxHeartbeats 4000000 in
theorem c_Land_gainOf {w : Hp} {d : Nat} {k a b : Int} (ha : 0 ≤ a ∧ a ≤ 8) : WP SH (d + 0) 38 0 [some (vI k), some (vI a), some (vI b)] [] w (fun v w' => v = some (vI (sGainOf k a b)) ∧ w' = w) := by
  refine wp_iload_n (pc' := 1) rfl rfl rfl ?_
  refine wp_swE (1) (pt := 36) rfl (by decide) rfl rfl (fun q_1 => ?_) (fun q_1 => ?_)
  · skip
    refine wp_iload_n (pc' := 37) rfl rfl rfl ?_
    refine wp_if_eq (pc' := 40) (pt := 46) rfl rfl rfl (fun q_2 => ?_) (fun q_2 => ?_)
    · skip
      refine wp_iload_n (pc' := 47) rfl rfl rfl ?_
      refine wp_ret rfl rfl rfl ?_
      refine ⟨congrArg (fun z => some (vI z)) ?_, rfl⟩
      unfold sGainOf
      (repeat' split) <;> omega
    · skip
      refine wp_iload_n (pc' := 41) rfl rfl rfl ?_
      refine wp_iconst (a := 3) (pc' := 42) rfl rfl rfl ?_
      refine wp_iadd (pc' := 43) rfl rfl (by first | exact w32_id (by omega) (by omega) | rfl) ?_
      refine wp_goto (pc' := 47) rfl rfl ?_
      refine wp_ret rfl rfl rfl ?_
      refine ⟨congrArg (fun z => some (vI z)) ?_, rfl⟩
      unfold sGainOf
      (repeat' split) <;> omega
  refine wp_swE (2) (pt := 48) rfl (by decide) rfl rfl (fun q_3 => ?_) (fun q_3 => ?_)
  · skip
    refine wp_bipush (a := 9) (pc' := 50) rfl rfl rfl ?_
    refine wp_iload_n (pc' := 51) rfl rfl rfl ?_
    refine wp_isub (pc' := 52) rfl rfl (by first | exact w32_id (by omega) (by omega) | rfl) ?_
    refine wp_ret rfl rfl rfl ?_
    refine ⟨congrArg (fun z => some (vI z)) ?_, rfl⟩
    unfold sGainOf
    (repeat' split) <;> omega
  refine wp_swE (3) (pt := 53) rfl (by decide) rfl rfl (fun q_4 => ?_) (fun q_4 => ?_)
  · skip
    refine wp_iconst (a := 0) (pc' := 54) rfl rfl rfl ?_
    refine wp_ret rfl rfl rfl ?_
    refine ⟨congrArg (fun z => some (vI z)) ?_, rfl⟩
    unfold sGainOf
    (repeat' split) <;> omega
  refine wp_swE (4) (pt := 55) rfl (by decide) rfl rfl (fun q_5 => ?_) (fun q_5 => ?_)
  · skip
    refine wp_iload_n (pc' := 56) rfl rfl rfl ?_
    refine wp_if_ne (pc' := 59) (pt := 63) rfl rfl rfl (fun q_6 => ?_) (fun q_6 => ?_)
    · skip
      refine wp_iconst (a := 2) (pc' := 64) rfl rfl rfl ?_
      refine wp_bipush (a := 9) (pc' := 66) rfl rfl rfl ?_
      refine wp_iload_n (pc' := 67) rfl rfl rfl ?_
      refine wp_isub (pc' := 68) rfl rfl (by first | exact w32_id (by omega) (by omega) | rfl) ?_
      refine wp_imul (pc' := 69) rfl rfl (by first | exact w32_id (by omega) (by omega) | rfl) ?_
      refine wp_ret rfl rfl rfl ?_
      refine ⟨congrArg (fun z => some (vI z)) ?_, rfl⟩
      unfold sGainOf
      (repeat' split) <;> omega
    · skip
      refine wp_iconst (a := 0) (pc' := 60) rfl rfl rfl ?_
      refine wp_goto (pc' := 69) rfl rfl ?_
      refine wp_ret rfl rfl rfl ?_
      refine ⟨congrArg (fun z => some (vI z)) ?_, rfl⟩
      unfold sGainOf
      (repeat' split) <;> omega
  refine wp_swE (5) (pt := 70) rfl (by decide) rfl rfl (fun q_7 => ?_) (fun q_7 => ?_)
  · skip
    refine wp_iload_n (pc' := 71) rfl rfl rfl ?_
    refine wp_iconst (a := 1) (pc' := 72) rfl rfl rfl ?_
    refine wp_icmp_ne (pc' := 75) (pt := 79) rfl rfl rfl (fun q_8 => ?_) (fun q_8 => ?_)
    · skip
      refine wp_iconst (a := 0) (pc' := 80) rfl rfl rfl ?_
      refine wp_ret rfl rfl rfl ?_
      refine ⟨congrArg (fun z => some (vI z)) ?_, rfl⟩
      unfold sGainOf
      (repeat' split) <;> omega
    · skip
      refine wp_iconst (a := 5) (pc' := 76) rfl rfl rfl ?_
      refine wp_goto (pc' := 80) rfl rfl ?_
      refine wp_ret rfl rfl rfl ?_
      refine ⟨congrArg (fun z => some (vI z)) ?_, rfl⟩
      unfold sGainOf
      (repeat' split) <;> omega
  refine wp_swOut (pc' := 81) rfl (by omega) rfl ?_
  refine wp_iload_n (pc' := 82) rfl rfl rfl ?_
  refine wp_ret rfl rfl rfl ?_
  refine ⟨congrArg (fun z => some (vI z)) ?_, rfl⟩
  unfold sGainOf
  (repeat' split) <;> omega
set_option maxRecDepth 20000 in
set_option maxHeartbeats 4000000 in
theorem c_Land_gains {w : Hp} {d : Nat} {i cell : Int} (hc : CL (w 3 0) (w 3 1)) (hi : 0 ≤ i ∧ i < 6) (hT : Stc w) (hx : Cel (w 3 0) (w 3 1) cell) (hh : Cel (w 3 0) (w 3 1) (w 5 i)) : WP SH (d + 1) 36 0 [some (vR 3), some (vI i), some (vI cell)] [] w (fun v w' => v = some (vI (sG (w 3 0) (w 4 i) (w 5 i) cell)) ∧ w' = w) := by
  refine wp_aload_n (pc' := 1) rfl rfl rfl (by decide) ?_
  refine wp_getR (r' := 4) (ci := 3) (k0 := 7) (pc' := 4) rfl rfl (by decide) (by first | assumption | rfl) (hT.get 23 rfl) ?_
  refine wp_iload_n (pc' := 5) rfl rfl rfl ?_
  refine wp_iaload (pc' := 6) rfl rfl (by first | assumption | rfl) (by omega) ?_
  refine wp_aload_n (pc' := 7) rfl rfl rfl (by decide) ?_
  refine wp_iload_n (pc' := 8) rfl rfl rfl ?_
  refine wp_aload_n (pc' := 9) rfl rfl rfl (by decide) ?_
  refine wp_getR (r' := 5) (ci := 3) (k0 := 8) (pc' := 12) rfl rfl (by decide) (by first | assumption | rfl) (hT.get 24 rfl) ?_
  refine wp_iload_n (pc' := 13) rfl rfl rfl ?_
  refine wp_iaload (pc' := 14) rfl rfl (by first | assumption | rfl) (by omega) ?_
  refine wp_call (pc' := 17) rfl rfl rfl rfl rfl ⟨Nat.le_of_ble_eq_true rfl, Nat.le_of_ble_eq_true rfl, Nat.le_of_ble_eq_true rfl, Nat.le_of_ble_eq_true rfl, Nat.le_of_ble_eq_true rfl⟩ rfl (c_Land_far hc hx hh) ?_
  intro v1 w1 hq1
  rw [hq1.1, hq1.2]
  clear hq1 v1 w1
  dsimp only [Option.toList, List.cons_append, List.nil_append, List.append_nil]
  refine wp_aload_n (pc' := 18) rfl rfl rfl (by decide) ?_
  refine wp_iload_n (pc' := 19) rfl rfl rfl ?_
  refine wp_iload_n (pc' := 20) rfl rfl rfl ?_
  refine wp_call (pc' := 23) rfl rfl rfl rfl rfl ⟨Nat.le_of_ble_eq_true rfl, Nat.le_of_ble_eq_true rfl, Nat.le_of_ble_eq_true rfl, Nat.le_of_ble_eq_true rfl, Nat.le_of_ble_eq_true rfl⟩ rfl (c_Land_liesNorth hc hi hT hx hh) ?_
  intro v1 w1 hq1
  rw [hq1.1, hq1.2]
  clear hq1 v1 w1
  dsimp only [Option.toList, List.cons_append, List.nil_append, List.append_nil]
  refine wp_call (pc' := 26) rfl rfl rfl rfl rfl ⟨Nat.le_of_ble_eq_true rfl, Nat.le_of_ble_eq_true rfl, Nat.le_of_ble_eq_true rfl, Nat.le_of_ble_eq_true rfl, Nat.le_of_ble_eq_true rfl⟩ rfl (c_Land_gainOf (sFar_in hc hx hh)) ?_
  intro v1 w1 hq1
  rw [hq1.1, hq1.2]
  clear hq1 v1 w1
  dsimp only [Option.toList, List.cons_append, List.nil_append, List.append_nil]
  refine wp_ret rfl rfl rfl ?_
  exact ⟨rfl, rfl⟩
set_option maxRecDepth 20000 in
set_option maxHeartbeats 4000000 in
theorem c_Land_gainsAs {w : Hp} {d : Nat} {k i cell : Int} (hc : CL (w 3 0) (w 3 1)) (hi : 0 ≤ i ∧ i < 6) (hT : Stc w) (hx : Cel (w 3 0) (w 3 1) cell) (hh : Cel (w 3 0) (w 3 1) (w 5 i)) : WP SH (d + 1) 37 0 [some (vR 3), some (vI k), some (vI i), some (vI cell)] [] w (fun v w' => v = some (vI (sG (w 3 0) k (w 5 i) cell)) ∧ w' = w) := by
  refine wp_iload_n (pc' := 1) rfl rfl rfl ?_
  refine wp_aload_n (pc' := 2) rfl rfl rfl (by decide) ?_
  refine wp_iload_n (pc' := 3) rfl rfl rfl ?_
  refine wp_aload_n (pc' := 4) rfl rfl rfl (by decide) ?_
  refine wp_getR (r' := 5) (ci := 3) (k0 := 8) (pc' := 7) rfl rfl (by decide) (by first | assumption | rfl) (hT.get 24 rfl) ?_
  refine wp_iload_n (pc' := 8) rfl rfl rfl ?_
  refine wp_iaload (pc' := 9) rfl rfl (by first | assumption | rfl) (by omega) ?_
  refine wp_call (pc' := 12) rfl rfl rfl rfl rfl ⟨Nat.le_of_ble_eq_true rfl, Nat.le_of_ble_eq_true rfl, Nat.le_of_ble_eq_true rfl, Nat.le_of_ble_eq_true rfl, Nat.le_of_ble_eq_true rfl⟩ rfl (c_Land_far hc hx hh) ?_
  intro v1 w1 hq1
  rw [hq1.1, hq1.2]
  clear hq1 v1 w1
  dsimp only [Option.toList, List.cons_append, List.nil_append, List.append_nil]
  refine wp_aload_n (pc' := 13) rfl rfl rfl (by decide) ?_
  refine wp_iload_n (pc' := 14) rfl rfl rfl ?_
  refine wp_iload_n (pc' := 15) rfl rfl rfl ?_
  refine wp_call (pc' := 18) rfl rfl rfl rfl rfl ⟨Nat.le_of_ble_eq_true rfl, Nat.le_of_ble_eq_true rfl, Nat.le_of_ble_eq_true rfl, Nat.le_of_ble_eq_true rfl, Nat.le_of_ble_eq_true rfl⟩ rfl (c_Land_liesNorth hc hi hT hx hh) ?_
  intro v1 w1 hq1
  rw [hq1.1, hq1.2]
  clear hq1 v1 w1
  dsimp only [Option.toList, List.cons_append, List.nil_append, List.append_nil]
  refine wp_call (pc' := 21) rfl rfl rfl rfl rfl ⟨Nat.le_of_ble_eq_true rfl, Nat.le_of_ble_eq_true rfl, Nat.le_of_ble_eq_true rfl, Nat.le_of_ble_eq_true rfl, Nat.le_of_ble_eq_true rfl⟩ rfl (c_Land_gainOf (sFar_in hc hx hh)) ?_
  intro v1 w1 hq1
  rw [hq1.1, hq1.2]
  clear hq1 v1 w1
  dsimp only [Option.toList, List.cons_append, List.nil_append, List.append_nil]
  refine wp_ret rfl rfl rfl ?_
  exact ⟨rfl, rfl⟩
set_option maxRecDepth 20000 in
set_option maxHeartbeats 4000000 in
theorem c_Mod_apart {w : Hp} {d : Nat} {a b : Int} (ha : 0 ≤ a ∧ a < 100) (hb : 0 ≤ b ∧ b < 100) : WP SH (d + 0) 169 0 [some (vI a), some (vI b)] [] w (fun v w' => v = some (vI (sAbs (a - b))) ∧ w' = w) := by
  refine wp_iload_n (pc' := 1) rfl rfl rfl ?_
  refine wp_iload_n (pc' := 2) rfl rfl rfl ?_
  refine wp_icmp_ge (pc' := 5) (pt := 11) rfl rfl rfl (fun q_1 => ?_) (fun q_1 => ?_)
  · skip
    refine wp_iload_n (pc' := 12) rfl rfl rfl ?_
    refine wp_iload_n (pc' := 13) rfl rfl rfl ?_
    refine wp_isub (pc' := 14) rfl rfl (by first | exact w32_id (by omega) (by omega) | rfl) ?_
    refine wp_ret rfl rfl rfl ?_
    refine ⟨congrArg (fun z => some (vI z)) ?_, rfl⟩
    unfold sAbs
    (repeat' split) <;> omega
  · skip
    refine wp_iload_n (pc' := 6) rfl rfl rfl ?_
    refine wp_iload_n (pc' := 7) rfl rfl rfl ?_
    refine wp_isub (pc' := 8) rfl rfl (by first | exact w32_id (by omega) (by omega) | rfl) ?_
    refine wp_goto (pc' := 14) rfl rfl ?_
    refine wp_ret rfl rfl rfl ?_
    refine ⟨congrArg (fun z => some (vI z)) ?_, rfl⟩
    unfold sAbs
    (repeat' split) <;> omega
set_option maxRecDepth 20000 in
set_option maxHeartbeats 4000000 in
theorem c_Mod_far {w : Hp} {d : Nat} {a b : Int} (hc : CL (w 100 11) (w 100 12)) (ha : Cel (w 100 11) (w 100 12) a) (hb : Cel (w 100 11) (w 100 12) b) : WP SH (d + 1) 170 0 [some (vR 100), some (vI a), some (vI b)] [] w (fun v w' => v = some (vI (sFar (w 100 11) a b)) ∧ w' = w) := by
  have hda := ha.dm hc
  have hdb := hb.dm hc
  have hff := sFar_in hc ha hb
  unfold sFar at hff
  have hab : 0 ≤ sAbs (a % w 100 11 - b % w 100 11) ∧ sAbs (a % w 100 11 - b % w 100 11) ≤ 8 ∧ 0 ≤ sAbs (a / w 100 11 - b / w 100 11) ∧ sAbs (a / w 100 11 - b / w 100 11) ≤ 8 := by
    obtain ⟨c1, c2, c3, c4⟩ := hc
    unfold sAbs
    refine ⟨?_, ?_, ?_, ?_⟩ <;> split <;> omega
  obtain ⟨hc1, hc2, hc3, hc4⟩ := hc
  refine wp_iload_n (pc' := 1) rfl rfl rfl ?_
  refine wp_aload_n (pc' := 2) rfl rfl rfl (by decide) ?_
  refine wp_getI (ci := 10) (k0 := 11) (pc' := 5) rfl rfl (by decide) (by first | assumption | rfl) ?_
  refine wp_irem (pc' := 6) rfl rfl (by omega) (by first | exact iRem_pos (by omega) (by omega) (by omega) | rfl) ?_
  refine wp_iload_n (pc' := 7) rfl rfl rfl ?_
  refine wp_aload_n (pc' := 8) rfl rfl rfl (by decide) ?_
  refine wp_getI (ci := 10) (k0 := 11) (pc' := 11) rfl rfl (by decide) (by first | assumption | rfl) ?_
  refine wp_irem (pc' := 12) rfl rfl (by omega) (by first | exact iRem_pos (by omega) (by omega) (by omega) | rfl) ?_
  refine wp_call (pc' := 15) rfl rfl rfl rfl rfl ⟨Nat.le_of_ble_eq_true rfl, Nat.le_of_ble_eq_true rfl, Nat.le_of_ble_eq_true rfl, Nat.le_of_ble_eq_true rfl, Nat.le_of_ble_eq_true rfl⟩ rfl (c_Mod_apart (by omega) (by omega)) ?_
  intro v1 w1 hq1
  rw [hq1.1, hq1.2]
  clear hq1 v1 w1
  dsimp only [Option.toList, List.cons_append, List.nil_append, List.append_nil]
  refine wp_iload_n (pc' := 16) rfl rfl rfl ?_
  refine wp_aload_n (pc' := 17) rfl rfl rfl (by decide) ?_
  refine wp_getI (ci := 10) (k0 := 11) (pc' := 20) rfl rfl (by decide) (by first | assumption | rfl) ?_
  refine wp_idiv (pc' := 21) rfl rfl (by omega) (by first | exact iDiv_pos (by omega) (by omega) (by omega) | rfl) ?_
  refine wp_iload_n (pc' := 22) rfl rfl rfl ?_
  refine wp_aload_n (pc' := 23) rfl rfl rfl (by decide) ?_
  refine wp_getI (ci := 10) (k0 := 11) (pc' := 26) rfl rfl (by decide) (by first | assumption | rfl) ?_
  refine wp_idiv (pc' := 27) rfl rfl (by omega) (by first | exact iDiv_pos (by omega) (by omega) (by omega) | rfl) ?_
  refine wp_call (pc' := 30) rfl rfl rfl rfl rfl ⟨Nat.le_of_ble_eq_true rfl, Nat.le_of_ble_eq_true rfl, Nat.le_of_ble_eq_true rfl, Nat.le_of_ble_eq_true rfl, Nat.le_of_ble_eq_true rfl⟩ rfl (c_Mod_apart (by omega) (by omega)) ?_
  intro v1 w1 hq1
  rw [hq1.1, hq1.2]
  clear hq1 v1 w1
  dsimp only [Option.toList, List.cons_append, List.nil_append, List.append_nil]
  refine wp_iadd (pc' := 31) rfl rfl (by first | exact w32_id (by omega) (by omega) | rfl) ?_
  refine wp_ret rfl rfl rfl ?_
  exact ⟨rfl, rfl⟩
set_option maxRecDepth 20000 in
set_option maxHeartbeats 4000000 in
theorem c_Mod_beside {w : Hp} {d : Nat} {cell way : Int} (hc : CL (w 100 11) (w 100 12)) (hw : 0 ≤ way ∧ way ≤ 4) (hx : Cel (w 100 11) (w 100 12) cell) : WP SH (d + 0) 171 0 [some (vR 100), some (vI cell), some (vI way)] [] w (fun v w' => v = some (vI (sBeside (w 100 11) (w 100 12) cell way)) ∧ w' = w) := by
  have hdm := hx.dm hc
  have hmd := Int.emod_add_mul_ediv cell (w 100 11)
  obtain ⟨hc1, hc2, hc3, hc4⟩ := hc
  have hge : 1 ≤ cell / w 100 11 ↔ 1 * w 100 11 ≤ cell := Int.le_ediv_iff_mul_le (by omega)
  refine wp_iload_n (pc' := 1) rfl rfl rfl ?_
  refine wp_swE (0) (pt := 32) rfl (by decide) rfl rfl (fun q_1 => ?_) (fun q_1 => ?_)
  · skip
    refine wp_iload_n (pc' := 33) rfl rfl rfl ?_
    refine wp_ret rfl rfl rfl ?_
    refine ⟨congrArg (fun z => some (vI z)) ?_, rfl⟩
    unfold sBeside
    (repeat' split) <;> omega
  refine wp_swE (1) (pt := 34) rfl (by decide) rfl rfl (fun q_2 => ?_) (fun q_2 => ?_)
  · skip
    refine wp_iload_n (pc' := 35) rfl rfl rfl ?_
    refine wp_aload_n (pc' := 36) rfl rfl rfl (by decide) ?_
    refine wp_getI (ci := 10) (k0 := 11) (pc' := 39) rfl rfl (by decide) (by first | assumption | rfl) ?_
    refine wp_icmp_lt (pc' := 42) (pt := 51) rfl rfl rfl (fun q_3 => ?_) (fun q_3 => ?_)
    · skip
      refine wp_iconst (a := -1) (pc' := 52) rfl rfl rfl ?_
      refine wp_ret rfl rfl rfl ?_
      refine ⟨congrArg (fun z => some (vI z)) ?_, rfl⟩
      unfold sBeside
      (repeat' split) <;> omega
    · skip
      refine wp_iload_n (pc' := 43) rfl rfl rfl ?_
      refine wp_aload_n (pc' := 44) rfl rfl rfl (by decide) ?_
      refine wp_getI (ci := 10) (k0 := 11) (pc' := 47) rfl rfl (by decide) (by first | assumption | rfl) ?_
      refine wp_isub (pc' := 48) rfl rfl (by first | exact w32_id (by omega) (by omega) | rfl) ?_
      refine wp_goto (pc' := 52) rfl rfl ?_
      refine wp_ret rfl rfl rfl ?_
      refine ⟨congrArg (fun z => some (vI z)) ?_, rfl⟩
      unfold sBeside
      (repeat' split) <;> omega
  refine wp_swE (2) (pt := 53) rfl (by decide) rfl rfl (fun q_4 => ?_) (fun q_4 => ?_)
  · skip
    refine wp_iload_n (pc' := 54) rfl rfl rfl ?_
    refine wp_aload_n (pc' := 55) rfl rfl rfl (by decide) ?_
    refine wp_getI (ci := 10) (k0 := 11) (pc' := 58) rfl rfl (by decide) (by first | assumption | rfl) ?_
    refine wp_irem (pc' := 59) rfl rfl (by omega) (by first | exact iRem_pos (by omega) (by omega) (by omega) | rfl) ?_
    refine wp_aload_n (pc' := 60) rfl rfl rfl (by decide) ?_
    refine wp_getI (ci := 10) (k0 := 11) (pc' := 63) rfl rfl (by decide) (by first | assumption | rfl) ?_
    refine wp_iconst (a := 1) (pc' := 64) rfl rfl rfl ?_
    refine wp_isub (pc' := 65) rfl rfl (by first | exact w32_id (by omega) (by omega) | rfl) ?_
    refine wp_icmp_ge (pc' := 68) (pt := 74) rfl rfl rfl (fun q_5 => ?_) (fun q_5 => ?_)
    · skip
      refine wp_iconst (a := -1) (pc' := 75) rfl rfl rfl ?_
      refine wp_ret rfl rfl rfl ?_
      refine ⟨congrArg (fun z => some (vI z)) ?_, rfl⟩
      unfold sBeside
      (repeat' split) <;> omega
    · skip
      refine wp_iload_n (pc' := 69) rfl rfl rfl ?_
      refine wp_iconst (a := 1) (pc' := 70) rfl rfl rfl ?_
      refine wp_iadd (pc' := 71) rfl rfl (by first | exact w32_id (by omega) (by omega) | rfl) ?_
      refine wp_goto (pc' := 75) rfl rfl ?_
      refine wp_ret rfl rfl rfl ?_
      refine ⟨congrArg (fun z => some (vI z)) ?_, rfl⟩
      unfold sBeside
      (repeat' split) <;> omega
  refine wp_swE (3) (pt := 76) rfl (by decide) rfl rfl (fun q_6 => ?_) (fun q_6 => ?_)
  · skip
    refine wp_iload_n (pc' := 77) rfl rfl rfl ?_
    refine wp_aload_n (pc' := 78) rfl rfl rfl (by decide) ?_
    refine wp_getI (ci := 10) (k0 := 11) (pc' := 81) rfl rfl (by decide) (by first | assumption | rfl) ?_
    refine wp_idiv (pc' := 82) rfl rfl (by omega) (by first | exact iDiv_pos (by omega) (by omega) (by omega) | rfl) ?_
    refine wp_aload_n (pc' := 83) rfl rfl rfl (by decide) ?_
    refine wp_getI (ci := 10) (k0 := 12) (pc' := 86) rfl rfl (by decide) (by first | assumption | rfl) ?_
    refine wp_iconst (a := 1) (pc' := 87) rfl rfl rfl ?_
    refine wp_isub (pc' := 88) rfl rfl (by first | exact w32_id (by omega) (by omega) | rfl) ?_
    refine wp_icmp_ge (pc' := 91) (pt := 100) rfl rfl rfl (fun q_7 => ?_) (fun q_7 => ?_)
    · skip
      refine wp_iconst (a := -1) (pc' := 101) rfl rfl rfl ?_
      refine wp_ret rfl rfl rfl ?_
      refine ⟨congrArg (fun z => some (vI z)) ?_, rfl⟩
      unfold sBeside
      (repeat' split) <;> omega
    · skip
      refine wp_iload_n (pc' := 92) rfl rfl rfl ?_
      refine wp_aload_n (pc' := 93) rfl rfl rfl (by decide) ?_
      refine wp_getI (ci := 10) (k0 := 11) (pc' := 96) rfl rfl (by decide) (by first | assumption | rfl) ?_
      refine wp_iadd (pc' := 97) rfl rfl (by first | exact w32_id (by omega) (by omega) | rfl) ?_
      refine wp_goto (pc' := 101) rfl rfl ?_
      refine wp_ret rfl rfl rfl ?_
      refine ⟨congrArg (fun z => some (vI z)) ?_, rfl⟩
      unfold sBeside
      (repeat' split) <;> omega
  refine wp_swOut (pc' := 102) rfl (by omega) rfl ?_
  refine wp_iload_n (pc' := 103) rfl rfl rfl ?_
  refine wp_aload_n (pc' := 104) rfl rfl rfl (by decide) ?_
  refine wp_getI (ci := 10) (k0 := 11) (pc' := 107) rfl rfl (by decide) (by first | assumption | rfl) ?_
  refine wp_irem (pc' := 108) rfl rfl (by omega) (by first | exact iRem_pos (by omega) (by omega) (by omega) | rfl) ?_
  refine wp_if_le (pc' := 111) (pt := 117) rfl rfl rfl (fun q_8 => ?_) (fun q_8 => ?_)
  · skip
    refine wp_iconst (a := -1) (pc' := 118) rfl rfl rfl ?_
    refine wp_ret rfl rfl rfl ?_
    refine ⟨congrArg (fun z => some (vI z)) ?_, rfl⟩
    unfold sBeside
    (repeat' split) <;> omega
  · skip
    refine wp_iload_n (pc' := 112) rfl rfl rfl ?_
    refine wp_iconst (a := 1) (pc' := 113) rfl rfl rfl ?_
    refine wp_isub (pc' := 114) rfl rfl (by first | exact w32_id (by omega) (by omega) | rfl) ?_
    refine wp_goto (pc' := 118) rfl rfl ?_
    refine wp_ret rfl rfl rfl ?_
    refine ⟨congrArg (fun z => some (vI z)) ?_, rfl⟩
    unfold sBeside
    (repeat' split) <;> omega
set_option maxRecDepth 20000 in
set_option maxHeartbeats 4000000 in
theorem c_Mod_gainBy {w : Hp} {d : Nat} {k h cell : Int} (hc : CL (w 100 11) (w 100 12)) (hx : Cel (w 100 11) (w 100 12) cell) (hh : Cel (w 100 11) (w 100 12) h) : WP SH (d + 2) 173 0 [some (vR 100), some (vI k), some (vI h), some (vI cell), none] [] w (fun v w' => v = some (vI (sG (w 100 11) k h cell)) ∧ w' = w) := by
  have hda := hx.dm hc
  have hdb := hh.dm hc
  have hff := sFar_in hc hx hh
  refine wp_aload_n (pc' := 1) rfl rfl rfl (by decide) ?_
  refine wp_iload_n (pc' := 2) rfl rfl rfl ?_
  refine wp_iload_n (pc' := 3) rfl rfl rfl ?_
  refine wp_call (pc' := 6) rfl rfl rfl rfl rfl ⟨Nat.le_of_ble_eq_true rfl, Nat.le_of_ble_eq_true rfl, Nat.le_of_ble_eq_true rfl, Nat.le_of_ble_eq_true rfl, Nat.le_of_ble_eq_true rfl⟩ rfl (c_Mod_far hc hh hx) ?_
  intro v1 w1 hq1
  rw [hq1.1, hq1.2]
  clear hq1 v1 w1
  rw [sFar_comm (w 100 11) h cell]
  obtain ⟨hc1, hc2, hc3, hc4⟩ := hc
  dsimp only [Option.toList, List.cons_append, List.nil_append, List.append_nil]
  refine wp_istore (pc' := 8) rfl rfl (Nat.le_of_ble_eq_true rfl) rfl ?_
  dsimp only [lset, lset2, List.set, List.getElem?_cons_zero, List.getElem?_cons_succ]
  refine wp_iload_n (pc' := 9) rfl rfl rfl ?_
  refine wp_swE (1) (pt := 44) rfl (by decide) rfl rfl (fun q_1 => ?_) (fun q_1 => ?_)
  · skip
    refine wp_iload (pc' := 46) rfl rfl rfl ?_
    refine wp_iload_n (pc' := 47) rfl rfl rfl ?_
    refine wp_aload_n (pc' := 48) rfl rfl rfl (by decide) ?_
    refine wp_getI (ci := 10) (k0 := 11) (pc' := 51) rfl rfl (by decide) (by first | assumption | rfl) ?_
    refine wp_idiv (pc' := 52) rfl rfl (by omega) (by first | exact iDiv_pos (by omega) (by omega) (by omega) | rfl) ?_
    refine wp_iload_n (pc' := 53) rfl rfl rfl ?_
    refine wp_aload_n (pc' := 54) rfl rfl rfl (by decide) ?_
    refine wp_getI (ci := 10) (k0 := 11) (pc' := 57) rfl rfl (by decide) (by first | assumption | rfl) ?_
    refine wp_idiv (pc' := 58) rfl rfl (by omega) (by first | exact iDiv_pos (by omega) (by omega) (by omega) | rfl) ?_
    refine wp_icmp_ge (pc' := 61) (pt := 65) rfl rfl rfl (fun q_2 => ?_) (fun q_2 => ?_)
    · skip
      refine wp_iconst (a := 0) (pc' := 66) rfl rfl rfl ?_
      refine wp_iadd (pc' := 67) rfl rfl (by first | exact w32_id (by omega) (by omega) | rfl) ?_
      refine wp_ret rfl rfl rfl ?_
      refine ⟨congrArg (fun z => some (vI z)) ?_, rfl⟩
      unfold sG sGainOf sNorth
      (repeat' split) <;> omega
    · skip
      refine wp_iconst (a := 3) (pc' := 62) rfl rfl rfl ?_
      refine wp_goto (pc' := 66) rfl rfl ?_
      refine wp_iadd (pc' := 67) rfl rfl (by first | exact w32_id (by omega) (by omega) | rfl) ?_
      refine wp_ret rfl rfl rfl ?_
      refine ⟨congrArg (fun z => some (vI z)) ?_, rfl⟩
      unfold sG sGainOf sNorth
      (repeat' split) <;> omega
  refine wp_swE (2) (pt := 68) rfl (by decide) rfl rfl (fun q_3 => ?_) (fun q_3 => ?_)
  · skip
    refine wp_bipush (a := 9) (pc' := 70) rfl rfl rfl ?_
    refine wp_iload (pc' := 72) rfl rfl rfl ?_
    refine wp_isub (pc' := 73) rfl rfl (by first | exact w32_id (by omega) (by omega) | rfl) ?_
    refine wp_ret rfl rfl rfl ?_
    refine ⟨congrArg (fun z => some (vI z)) ?_, rfl⟩
    unfold sG sGainOf sNorth
    (repeat' split) <;> omega
  refine wp_swE (3) (pt := 74) rfl (by decide) rfl rfl (fun q_4 => ?_) (fun q_4 => ?_)
  · skip
    refine wp_iconst (a := 0) (pc' := 75) rfl rfl rfl ?_
    refine wp_ret rfl rfl rfl ?_
    refine ⟨congrArg (fun z => some (vI z)) ?_, rfl⟩
    unfold sG sGainOf sNorth
    (repeat' split) <;> omega
  refine wp_swE (4) (pt := 76) rfl (by decide) rfl rfl (fun q_5 => ?_) (fun q_5 => ?_)
  · skip
    refine wp_iload (pc' := 78) rfl rfl rfl ?_
    refine wp_if_ne (pc' := 81) (pt := 85) rfl rfl rfl (fun q_6 => ?_) (fun q_6 => ?_)
    · skip
      refine wp_iconst (a := 2) (pc' := 86) rfl rfl rfl ?_
      refine wp_bipush (a := 9) (pc' := 88) rfl rfl rfl ?_
      refine wp_iload (pc' := 90) rfl rfl rfl ?_
      refine wp_isub (pc' := 91) rfl rfl (by first | exact w32_id (by omega) (by omega) | rfl) ?_
      refine wp_imul (pc' := 92) rfl rfl (by first | exact w32_id (by omega) (by omega) | rfl) ?_
      refine wp_ret rfl rfl rfl ?_
      refine ⟨congrArg (fun z => some (vI z)) ?_, rfl⟩
      unfold sG sGainOf sNorth
      (repeat' split) <;> omega
    · skip
      refine wp_iconst (a := 0) (pc' := 82) rfl rfl rfl ?_
      refine wp_goto (pc' := 92) rfl rfl ?_
      refine wp_ret rfl rfl rfl ?_
      refine ⟨congrArg (fun z => some (vI z)) ?_, rfl⟩
      unfold sG sGainOf sNorth
      (repeat' split) <;> omega
  refine wp_swE (5) (pt := 93) rfl (by decide) rfl rfl (fun q_7 => ?_) (fun q_7 => ?_)
  · skip
    refine wp_iload (pc' := 95) rfl rfl rfl ?_
    refine wp_iconst (a := 1) (pc' := 96) rfl rfl rfl ?_
    refine wp_icmp_ne (pc' := 99) (pt := 103) rfl rfl rfl (fun q_8 => ?_) (fun q_8 => ?_)
    · skip
      refine wp_iconst (a := 0) (pc' := 104) rfl rfl rfl ?_
      refine wp_ret rfl rfl rfl ?_
      refine ⟨congrArg (fun z => some (vI z)) ?_, rfl⟩
      unfold sG sGainOf sNorth
      (repeat' split) <;> omega
    · skip
      refine wp_iconst (a := 5) (pc' := 100) rfl rfl rfl ?_
      refine wp_goto (pc' := 104) rfl rfl ?_
      refine wp_ret rfl rfl rfl ?_
      refine ⟨congrArg (fun z => some (vI z)) ?_, rfl⟩
      unfold sG sGainOf sNorth
      (repeat' split) <;> omega
  refine wp_swOut (pc' := 105) rfl (by omega) rfl ?_
  refine wp_iload (pc' := 107) rfl rfl rfl ?_
  refine wp_ret rfl rfl rfl ?_
  refine ⟨congrArg (fun z => some (vI z)) ?_, rfl⟩
  unfold sG sGainOf sNorth
  (repeat' split) <;> omega
set_option maxRecDepth 20000 in
set_option maxHeartbeats 4000000 in
theorem c_Mod_gainOn {w : Hp} {d : Nat} {i cell : Int} (hc : CL (w 100 11) (w 100 12)) (hi : 0 ≤ i ∧ i < 6) (hT : Stc w) (hx : Cel (w 100 11) (w 100 12) cell) (hh : Cel (w 100 11) (w 100 12) (w 109 (3 + i))) : WP SH (d + 3) 174 0 [some (vR 100), some (vI i), some (vI cell)] [] w (fun v w' => v = some (vI (sG (w 100 11) (w 107 i) (w 109 (3 + i)) cell)) ∧ w' = w) := by
  refine wp_aload_n (pc' := 1) rfl rfl rfl (by decide) ?_
  refine wp_aload_n (pc' := 2) rfl rfl rfl (by decide) ?_
  refine wp_getR (r' := 107) (ci := 10) (k0 := 13) (pc' := 5) rfl rfl (by decide) (by first | assumption | rfl) (hT.get 105 rfl) ?_
  refine wp_iload_n (pc' := 6) rfl rfl rfl ?_
  refine wp_iaload (pc' := 7) rfl rfl (by first | assumption | rfl) (by omega) ?_
  refine wp_aload_n (pc' := 8) rfl rfl rfl (by decide) ?_
  refine wp_getR (r' := 109) (ci := 10) (k0 := 15) (pc' := 11) rfl rfl (by decide) (by first | assumption | rfl) (hT.get 107 rfl) ?_
  refine wp_iconst (a := 3) (pc' := 12) rfl rfl rfl ?_
  refine wp_iload_n (pc' := 13) rfl rfl rfl ?_
  refine wp_iadd (pc' := 14) rfl rfl (by first | exact w32_id (by omega) (by omega) | rfl) ?_
  refine wp_iaload (pc' := 15) rfl rfl (by first | assumption | rfl) (by omega) ?_
  refine wp_iload_n (pc' := 16) rfl rfl rfl ?_
  refine wp_call (pc' := 19) rfl rfl rfl rfl rfl ⟨Nat.le_of_ble_eq_true rfl, Nat.le_of_ble_eq_true rfl, Nat.le_of_ble_eq_true rfl, Nat.le_of_ble_eq_true rfl, Nat.le_of_ble_eq_true rfl⟩ rfl (c_Mod_gainBy hc hx hh) ?_
  intro v1 w1 hq1
  rw [hq1.1, hq1.2]
  clear hq1 v1 w1
  dsimp only [Option.toList, List.cons_append, List.nil_append, List.append_nil]
  refine wp_ret rfl rfl rfl ?_
  exact ⟨rfl, rfl⟩
