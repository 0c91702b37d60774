/-! who can go where, what one votes for -/
/-- the static arrays -/
def ROw (w : Hp) : Prop := (w (-3) (-1) = 6 ∧ w (-3) 0 = 102 ∧ w (-3) 1 = 118 ∧ w (-3) 2 = 119 ∧ w (-3) 3 = 103 ∧ w (-3) 4 = 109 ∧ w (-3) 5 = 104) ∧ (w (-4) (-1) = 6 ∧ w (-4) 0 = 0 ∧ w (-4) 1 = 0 ∧ w (-4) 2 = 0 ∧ w (-4) 3 = 0 ∧ w (-4) 4 = 2 ∧ w (-4) 5 = 3) ∧ (w (-5) (-1) = 5 ∧ w (-5) 0 = 0 ∧ w (-5) 1 = 3 ∧ w (-5) 2 = 4 ∧ w (-5) 3 = 1 ∧ w (-5) 4 = 2)
def sAgainst (way : Int) : Int := if way = 0 then 0 else if 2 < way then way - 2 else way + 2
theorem ro5 {w : Hp} (h : ROw w) {i : Int} (hi : 0 ≤ i ∧ i ≤ 4) : w (-5) i = sAgainst i := by
  obtain ⟨-, -, h0, h1, h2, h3, h4, h5⟩ := h
  have : i = 0 ∨ i = 1 ∨ i = 2 ∨ i = 3 ∨ i = 4 := by omega
  rcases this with rfl | rfl | rfl | rfl | rfl <;> assumption
def sWider (k : Int) : Int := if k = 4 then 2 else if k = 5 then 3 else 0
theorem ro4 {w : Hp} (h : ROw w) {i : Int} (hi : 0 ≤ i ∧ i ≤ 5) : w (-4) i = sWider i := by
  obtain ⟨-, ⟨h0, h1, h2, h3, h4, h5, h6⟩, -⟩ := h
  have : i = 0 ∨ i = 1 ∨ i = 2 ∨ i = 3 ∨ i = 4 ∨ i = 5 := by omega
  rcases this with rfl | rfl | rfl | rfl | rfl | rfl <;> assumption
theorem beside_cel {c l cell way : Int} (hc : CL c l) (hx : Cel c l cell) (h : sBeside c l cell way ≠ -1) : Cel c l (sBeside c l cell way) := by
  obtain ⟨c1, c2, c3, c4⟩ := hc
  obtain ⟨h1, h2⟩ := hx
  have : c = 3 ∨ c = 4 ∨ c = 5 := by omega
  unfold sBeside at h ⊢
  unfold Cel
  rcases this with rfl | rfl | rfl <;> constructor <;> (repeat' split at h) <;> (repeat' split) <;> omega
theorem beside_ge {c l cell way : Int} (hc : CL c l) (hx : Cel c l cell) : -1 ≤ sBeside c l cell way ∧ sBeside c l cell way < 25 := by
  by_cases h : sBeside c l cell way = -1
  · omega
  · have := (beside_cel hc hx h).dm hc
    omega
/-- a way that can be voted for -/
def sCan (c l cell back way : Int) : Prop := way = 0 ∨ (way ≠ back ∧ sBeside c l cell way ≠ -1)
/-- behind ways 1 .. m: the best one, whether all gain alike -/
def vSt (c l k h cell back : Int) : Nat → Int × Int
  | 0 => (0, 1)
  | m + 1 => if ((m : Int) + 1 ≠ back ∧ sBeside c l cell ((m : Int) + 1) ≠ -1) then
      (if sG c k h (sBeside c l cell (vSt c l k h cell back m).1) < sG c k h (sBeside c l cell ((m : Int) + 1)) then (m : Int) + 1 else (vSt c l k h cell back m).1,
        if (vSt c l k h cell back m).2 = 1 ∧ sG c k h (sBeside c l cell ((m : Int) + 1)) = sG c k h cell then 1 else 0) else vSt c l k h cell back m
def sVote (c l k h cell back : Int) : Int := if (vSt c l k h cell back 4).2 = 1 ∧ (k = 3 ∨ k = 5) then -9 else (vSt c l k h cell back 4).1
theorem beside0 (c l cell : Int) : sBeside c l cell 0 = cell := by unfold sBeside; rw [if_pos rfl]
theorem vSt_ok {c l k h cell back : Int} (hc : CL c l) (hx : Cel c l cell) : ∀ m : Nat, 0 ≤ (vSt c l k h cell back m).1 ∧ (vSt c l k h cell back m).1 ≤ m ∧ sBeside c l cell (vSt c l k h cell back m).1 ≠ -1 ∧ ((vSt c l k h cell back m).2 = 0 ∨ (vSt c l k h cell back m).2 = 1) := by
  intro m
  induction m with
  | zero =>
    refine ⟨by simp [vSt], by simp [vSt], ?_, by simp [vSt]⟩
    show sBeside c l cell 0 ≠ -1
    rw [beside0]
    have := hx.1
    omega
  | succ m ih =>
    obtain ⟨i1, i2, i3, i4⟩ := ih
    unfold vSt
    split
    · rename_i hcan
      refine ⟨?_, ?_, ?_, ?_⟩
      · dsimp only; split <;> omega
      · dsimp only; split <;> omega
      · dsimp only; split
        · exact hcan.2
        · exact i3
      · dsimp only; split <;> omega
    · exact ⟨i1, by omega, i3, i4⟩
theorem sVote_in {c l k h cell back : Int} (hc : CL c l) (hx : Cel c l cell) : sVote c l k h cell back = -9 ∨ (0 ≤ sVote c l k h cell back ∧ sVote c l k h cell back ≤ 4 ∧ sBeside c l cell (sVote c l k h cell back) ≠ -1) := by
  have h4 := vSt_ok (k := k) (h := h) (back := back) hc hx 4
  unfold sVote
  split
  · exact Or.inl rfl
  · exact Or.inr ⟨h4.1, h4.2.1, h4.2.2.1⟩
set_option maxRecDepth 20000 in
set_option maxHeartbeats 4000000 in
theorem c_Land_canGo {w : Hp} {d : Nat} {cell back way : Int} (hc : CL (w 3 0) (w 3 1)) (hx : Cel (w 3 0) (w 3 1) cell) : WP SH (d + 1) 32 0 [some (vR 3), some (vI cell), some (vI back), some (vI way)] [] w (fun v w' => w' = w ∧ ((v = some (vI 1) ∧ (way = 0 ∨ (way ≠ back ∧ sBeside (w 3 0) (w 3 1) cell way ≠ -1))) ∨ (v = some (vI 0) ∧ ¬ (way = 0 ∨ (way ≠ back ∧ sBeside (w 3 0) (w 3 1) cell way ≠ -1))))) := by
  refine wp_iload_n (pc' := 1) rfl rfl rfl ?_
  refine wp_if_eq (pc' := 4) (pt := 19) rfl rfl rfl (fun q_1 => ?_) (fun q_1 => ?_)
  · skip
    refine wp_iconst (a := 1) (pc' := 20) rfl rfl rfl ?_
    refine wp_goto (pc' := 24) rfl rfl ?_
    refine wp_ret rfl rfl rfl ?_
    first | exact ⟨rfl, Or.inl ⟨rfl, by omega⟩⟩ | exact ⟨rfl, Or.inr ⟨rfl, by omega⟩⟩ | (exfalso; omega)
  · skip
    refine wp_iload_n (pc' := 5) rfl rfl rfl ?_
    refine wp_iload_n (pc' := 6) rfl rfl rfl ?_
    refine wp_icmp_eq (pc' := 9) (pt := 23) rfl rfl rfl (fun q_2 => ?_) (fun q_2 => ?_)
    · skip
      refine wp_iconst (a := 0) (pc' := 24) rfl rfl rfl ?_
      refine wp_ret rfl rfl rfl ?_
      first | exact ⟨rfl, Or.inl ⟨rfl, by omega⟩⟩ | exact ⟨rfl, Or.inr ⟨rfl, by omega⟩⟩ | (exfalso; omega)
    · skip
      refine wp_aload_n (pc' := 10) rfl rfl rfl (by decide) ?_
      refine wp_iload_n (pc' := 11) rfl rfl rfl ?_
      refine wp_iload_n (pc' := 12) rfl rfl rfl ?_
      refine wp_call (pc' := 15) rfl rfl rfl rfl rfl ⟨Nat.le_of_ble_eq_true rfl, Nat.le_of_ble_eq_true rfl, Nat.le_of_ble_eq_true rfl, Nat.le_of_ble_eq_true rfl, Nat.le_of_ble_eq_true rfl⟩ rfl (c_Land_beside hc hx) ?_
      intro v1 w1 hq1
      rw [hq1.1, hq1.2]
      clear hq1 v1 w1
      dsimp only [Option.toList, List.cons_append, List.nil_append, List.append_nil]
      refine wp_iconst (a := -1) (pc' := 16) rfl rfl rfl ?_
      refine wp_icmp_eq (pc' := 19) (pt := 23) rfl rfl rfl (fun q_3 => ?_) (fun q_3 => ?_)
      · skip
        refine wp_iconst (a := 0) (pc' := 24) rfl rfl rfl ?_
        refine wp_ret rfl rfl rfl ?_
        first | exact ⟨rfl, Or.inl ⟨rfl, by omega⟩⟩ | exact ⟨rfl, Or.inr ⟨rfl, by omega⟩⟩ | (exfalso; omega)
      · skip
        refine wp_iconst (a := 1) (pc' := 20) rfl rfl rfl ?_
        refine wp_goto (pc' := 24) rfl rfl ?_
        refine wp_ret rfl rfl rfl ?_
        first | exact ⟨rfl, Or.inl ⟨rfl, by omega⟩⟩ | exact ⟨rfl, Or.inr ⟨rfl, by omega⟩⟩ | (exfalso; omega)
set_option maxRecDepth 20000 in
set_option maxHeartbeats 4000000 in
theorem c_Land_against {w : Hp} {d : Nat} {way : Int} (hr : ROw w) (hw : 0 ≤ way ∧ way ≤ 4) : WP SH (d + 0) 33 0 [some (vI way)] [] w (fun v w' => v = some (vI (sAgainst way)) ∧ w' = w) := by
  have h5 := hr.2.2.1
  refine wp_iload_n (pc' := 1) rfl rfl rfl ?_
  refine wp_if_lt (pc' := 4) (pt := 9) rfl rfl rfl (fun q_1 => ?_) (fun q_1 => ?_)
  · skip
    refine wp_iconst (a := 0) (pc' := 10) rfl rfl rfl ?_
    refine wp_goto (pc' := 18) rfl rfl ?_
    refine wp_ret rfl rfl rfl ?_
    first | exact ⟨by rw [ro5 hr hw], rfl⟩ | (exfalso; omega)
  · skip
    refine wp_iload_n (pc' := 5) rfl rfl rfl ?_
    refine wp_iconst (a := 5) (pc' := 6) rfl rfl rfl ?_
    refine wp_icmp_lt (pc' := 9) (pt := 13) rfl rfl rfl (fun q_2 => ?_) (fun q_2 => ?_)
    · skip
      refine wp_getstatic (pc' := 16) rfl rfl ?_
      refine wp_iload_n (pc' := 17) rfl rfl rfl ?_
      refine wp_ialoadO (pc' := 18) rfl rfl (by decide) rfl (by omega) ?_
      refine wp_ret rfl rfl rfl ?_
      first | exact ⟨by rw [ro5 hr hw], rfl⟩ | (exfalso; omega)
    · skip
      refine wp_iconst (a := 0) (pc' := 10) rfl rfl rfl ?_
      refine wp_goto (pc' := 18) rfl rfl ?_
      refine wp_ret rfl rfl rfl ?_
      first | exact ⟨by rw [ro5 hr hw], rfl⟩ | (exfalso; omega)
set_option maxRecDepth 20000 in
set_option maxHeartbeats 4000000 in
theorem c_Land_isOf {w : Hp} {d : Nat} {i wanted : Int} (hr : ROw w) (hT : Stc w) (hi : 0 ≤ i ∧ i < 6) (hk : 0 ≤ w 4 i ∧ w 4 i ≤ 5) : WP SH (d + 0) 34 0 [some (vR 3), some (vI i), some (vI wanted)] [] w (fun v w' => w' = w ∧ ((v = some (vI 1) ∧ (w 4 i = wanted ∨ sWider (w 4 i) = wanted)) ∨ (v = some (vI 0) ∧ ¬ (w 4 i = wanted ∨ sWider (w 4 i) = wanted)))) := by
  have h5 := hr.2.1.1
  have h6 := ro4 hr hk
  refine wp_aload_n (pc' := 1) rfl rfl rfl (by decide) ?_
  refine wp_getR (r' := 4) (ci := 3) (k0 := 7) (pc' := 4) rfl rfl (by decide) (by first | assumption | rfl) (hT.get 23 rfl) ?_
  refine wp_iload_n (pc' := 5) rfl rfl rfl ?_
  refine wp_iaload (pc' := 6) rfl rfl (by first | assumption | rfl) (by omega) ?_
  refine wp_iload_n (pc' := 7) rfl rfl rfl ?_
  refine wp_icmp_eq (pc' := 10) (pt := 24) rfl rfl rfl (fun q_1 => ?_) (fun q_1 => ?_)
  · skip
    refine wp_iconst (a := 1) (pc' := 25) rfl rfl rfl ?_
    refine wp_goto (pc' := 29) rfl rfl ?_
    refine wp_ret rfl rfl rfl ?_
    first | exact ⟨rfl, Or.inl ⟨rfl, by omega⟩⟩ | exact ⟨rfl, Or.inr ⟨rfl, by omega⟩⟩ | (exfalso; omega)
  · skip
    refine wp_getstatic (pc' := 13) rfl rfl ?_
    refine wp_aload_n (pc' := 14) rfl rfl rfl (by decide) ?_
    refine wp_getR (r' := 4) (ci := 3) (k0 := 7) (pc' := 17) rfl rfl (by decide) (by first | assumption | rfl) (hT.get 23 rfl) ?_
    refine wp_iload_n (pc' := 18) rfl rfl rfl ?_
    refine wp_iaload (pc' := 19) rfl rfl (by first | assumption | rfl) (by omega) ?_
    refine wp_ialoadO (pc' := 20) rfl rfl (by decide) rfl (by omega) ?_
    refine wp_iload_n (pc' := 21) rfl rfl rfl ?_
    refine wp_icmp_ne (pc' := 24) (pt := 28) rfl rfl rfl (fun q_2 => ?_) (fun q_2 => ?_)
    · skip
      refine wp_iconst (a := 0) (pc' := 29) rfl rfl rfl ?_
      refine wp_ret rfl rfl rfl ?_
      first | exact ⟨rfl, Or.inl ⟨rfl, by omega⟩⟩ | exact ⟨rfl, Or.inr ⟨rfl, by omega⟩⟩ | (exfalso; omega)
    · skip
      refine wp_iconst (a := 1) (pc' := 25) rfl rfl rfl ?_
      refine wp_goto (pc' := 29) rfl rfl ?_
      refine wp_ret rfl rfl rfl ?_
      first | exact ⟨rfl, Or.inl ⟨rfl, by omega⟩⟩ | exact ⟨rfl, Or.inr ⟨rfl, by omega⟩⟩ | (exfalso; omega)
set_option maxRecDepth 20000 in
set_option maxHeartbeats 4000000 in
theorem c_Mod_against {w : Hp} {d : Nat} {way : Int} (hw : 0 ≤ way ∧ way ≤ 4) : WP SH (d + 0) 172 0 [some (vI way)] [] w (fun v w' => v = some (vI (sAgainst way)) ∧ w' = w) := by
  refine wp_iload_n (pc' := 1) rfl rfl rfl ?_
  refine wp_if_ne (pc' := 4) (pt := 8) rfl rfl rfl (fun q_1 => ?_) (fun q_1 => ?_)
  · skip
    refine wp_iload_n (pc' := 9) rfl rfl rfl ?_
    refine wp_iconst (a := 2) (pc' := 10) rfl rfl rfl ?_
    refine wp_icmp_le (pc' := 13) (pt := 19) rfl rfl rfl (fun q_2 => ?_) (fun q_2 => ?_)
    · skip
      refine wp_iload_n (pc' := 20) rfl rfl rfl ?_
      refine wp_iconst (a := 2) (pc' := 21) rfl rfl rfl ?_
      refine wp_iadd (pc' := 22) rfl rfl (by first | exact w32_id (by omega) (by omega) | rfl) ?_
      refine wp_ret rfl rfl rfl ?_
      refine ⟨congrArg (fun z => some (vI z)) ?_, rfl⟩
      unfold sAgainst
      (repeat' split) <;> omega
    · skip
      refine wp_iload_n (pc' := 14) rfl rfl rfl ?_
      refine wp_iconst (a := 2) (pc' := 15) rfl rfl rfl ?_
      refine wp_isub (pc' := 16) rfl rfl (by first | exact w32_id (by omega) (by omega) | rfl) ?_
      refine wp_goto (pc' := 22) rfl rfl ?_
      refine wp_ret rfl rfl rfl ?_
      refine ⟨congrArg (fun z => some (vI z)) ?_, rfl⟩
      unfold sAgainst
      (repeat' split) <;> omega
  · skip
    refine wp_iconst (a := 0) (pc' := 5) rfl rfl rfl ?_
    refine wp_goto (pc' := 22) rfl rfl ?_
    refine wp_ret rfl rfl rfl ?_
    refine ⟨congrArg (fun z => some (vI z)) ?_, rfl⟩
    unfold sAgainst
    (repeat' split) <;> omega
set_option maxRecDepth 20000 in
set_option maxHeartbeats 4000000 in
theorem c_Mod_canBe {w : Hp} {d : Nat} {cell back way : Int} (hc : CL (w 100 11) (w 100 12)) (hw : 0 ≤ way ∧ way ≤ 4) (hx : Cel (w 100 11) (w 100 12) cell) : WP SH (d + 1) 176 0 [some (vR 100), some (vI cell), some (vI back), some (vI way)] [] w (fun v w' => w' = w ∧ ((v = some (vI 1) ∧ (way = 0 ∨ (way ≠ back ∧ sBeside (w 100 11) (w 100 12) cell way ≠ -1))) ∨ (v = some (vI 0) ∧ ¬ (way = 0 ∨ (way ≠ back ∧ sBeside (w 100 11) (w 100 12) cell way ≠ -1))))) := by
  have hge := @beside_ge _ _ cell way hc hx
  have hb0 := beside0 (w 100 11) (w 100 12) cell
  have hx0 := hx.1
  have hb1 : way = 0 → sBeside (w 100 11) (w 100 12) cell way = cell := fun z => by rw [z]; exact hb0
  refine wp_aload_n (pc' := 1) rfl rfl rfl (by decide) ?_
  refine wp_iload_n (pc' := 2) rfl rfl rfl ?_
  refine wp_iload_n (pc' := 3) rfl rfl rfl ?_
  refine wp_call (pc' := 6) rfl rfl rfl rfl rfl ⟨Nat.le_of_ble_eq_true rfl, Nat.le_of_ble_eq_true rfl, Nat.le_of_ble_eq_true rfl, Nat.le_of_ble_eq_true rfl, Nat.le_of_ble_eq_true rfl⟩ rfl (c_Mod_beside hc hw hx) ?_
  intro v1 w1 hq1
  rw [hq1.1, hq1.2]
  clear hq1 v1 w1
  dsimp only [Option.toList, List.cons_append, List.nil_append, List.append_nil]
  refine wp_if_lt (pc' := 9) (pt := 22) rfl rfl rfl (fun q_1 => ?_) (fun q_1 => ?_)
  · skip
    refine wp_iconst (a := 0) (pc' := 23) rfl rfl rfl ?_
    refine wp_ret rfl rfl rfl ?_
    first | exact ⟨rfl, Or.inl ⟨rfl, by omega⟩⟩ | exact ⟨rfl, Or.inr ⟨rfl, by omega⟩⟩ | (exfalso; omega)
  · skip
    refine wp_iload_n (pc' := 10) rfl rfl rfl ?_
    refine wp_if_eq (pc' := 13) (pt := 18) rfl rfl rfl (fun q_2 => ?_) (fun q_2 => ?_)
    · skip
      refine wp_iconst (a := 1) (pc' := 19) rfl rfl rfl ?_
      refine wp_goto (pc' := 23) rfl rfl ?_
      refine wp_ret rfl rfl rfl ?_
      first | exact ⟨rfl, Or.inl ⟨rfl, by omega⟩⟩ | exact ⟨rfl, Or.inr ⟨rfl, by omega⟩⟩ | (exfalso; omega)
    · skip
      refine wp_iload_n (pc' := 14) rfl rfl rfl ?_
      refine wp_iload_n (pc' := 15) rfl rfl rfl ?_
      refine wp_icmp_eq (pc' := 18) (pt := 22) rfl rfl rfl (fun q_3 => ?_) (fun q_3 => ?_)
      · skip
        refine wp_iconst (a := 0) (pc' := 23) rfl rfl rfl ?_
        refine wp_ret rfl rfl rfl ?_
        first | exact ⟨rfl, Or.inl ⟨rfl, by omega⟩⟩ | exact ⟨rfl, Or.inr ⟨rfl, by omega⟩⟩ | (exfalso; omega)
      · skip
        refine wp_iconst (a := 1) (pc' := 19) rfl rfl rfl ?_
        refine wp_goto (pc' := 23) rfl rfl ?_
        refine wp_ret rfl rfl rfl ?_
        first | exact ⟨rfl, Or.inl ⟨rfl, by omega⟩⟩ | exact ⟨rfl, Or.inr ⟨rfl, by omega⟩⟩ | (exfalso; omega)
