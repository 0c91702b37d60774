/-! duel -/
/-- what comes of a cell for who pushes, behind ways 1 .. m -/
def wnt (c l : Int) (E : Int → Int) (par cell : Int) : Nat → Int
  | 0 => E cell
  | m + 1 => if sBeside c l cell ((m : Int) + 1) = -1 then wnt c l E par cell m else if par = 0 then (if wnt c l E par cell m < E (sBeside c l cell ((m : Int) + 1)) then E (sBeside c l cell ((m : Int) + 1)) else wnt c l E par cell m) else (if E (sBeside c l cell ((m : Int) + 1)) < wnt c l E par cell m then E (sBeside c l cell ((m : Int) + 1)) else wnt c l E par cell m)
theorem wnt_in {c l : Int} {E : Int → Int} {par cell : Int} : ∀ m : Nat, (par = 0 → E cell ≤ wnt c l E par cell m) ∧ (par ≠ 0 → wnt c l E par cell m ≤ E cell) := by
  intro m
  induction m with
  | zero => exact ⟨fun _ => Int.le_refl _, fun _ => Int.le_refl _⟩
  | succ m ih =>
    obtain ⟨i1, i2⟩ := ih
    unfold wnt
    by_cases hb : sBeside c l cell ((m : Int) + 1) = -1
    · rw [if_pos hb]; exact ⟨i1, i2⟩
    · rw [if_neg hb]
      by_cases hp : par = 0
      · rw [if_pos hp]
        refine ⟨fun _ => ?_, fun h => absurd hp h⟩
        have := i1 hp
        split <;> omega
      · rw [if_neg hp]
        refine ⟨fun h => absurd h hp, fun _ => ?_⟩
        have := i2 hp
        split <;> omega
theorem wnt_congr {c l : Int} {E E' : Int → Int} {par cell : Int} (hc : CL c l) (hx : Cel c l cell) (h : ∀ j : Int, Cel c l j → E j = E' j) : ∀ m : Nat, wnt c l E par cell m = wnt c l E' par cell m := by
  intro m
  induction m with
  | zero => exact h cell hx
  | succ m ih =>
    unfold wnt
    by_cases hb : sBeside c l cell ((m : Int) + 1) = -1
    · rw [if_pos hb, if_pos hb, ih]
    · rw [if_neg hb, if_neg hb, ih, h _ (beside_cel hc hx hb)]
/-- j turns before the last one -/
def dlv (c l n : Int) (W : Int → Int) : Nat → Int → Int
  | 0 => W
  | j + 1 => fun cell => wnt c l (dlv c l n W j) ((n - 1 - j) % 2) cell 4
theorem dlv_congr {c l n : Int} {W W' : Int → Int} (hc : CL c l) (h : ∀ j : Int, Cel c l j → W j = W' j) : ∀ (m : Nat) (cell : Int), Cel c l cell → dlv c l n W m cell = dlv c l n W' m cell := by
  intro m
  induction m with
  | zero => exact h
  | succ m ih =>
    intro cell hx
    exact wnt_congr hc hx (fun j hj => ih j hj) 4
theorem duel_at {w : Hp} (hT : Stc w) {k : Int} (h0 : 0 ≤ k) (h6 : k ≤ 6) : w 37 k = 38 + k ∧ shAt SH (38 + k) = some (1, 25) := by
  have : k = 0 ∨ k = 1 ∨ k = 2 ∨ k = 3 ∨ k = 4 ∨ k = 5 ∨ k = 6 := by omega
  rcases this with rfl | rfl | rfl | rfl | rfl | rfl | rfl
  · exact ⟨hT.get 54 rfl, rfl⟩
  · exact ⟨hT.get 55 rfl, rfl⟩
  · exact ⟨hT.get 56 rfl, rfl⟩
  · exact ⟨hT.get 57 rfl, rfl⟩
  · exact ⟨hT.get 58 rfl, rfl⟩
  · exact ⟨hT.get 59 rfl, rfl⟩
  · exact ⟨hT.get 60 rfl, rfl⟩
def DU : List Int := [38, 39, 40, 41, 42, 43, 44]
theorem du_mem {k : Int} (h0 : 0 ≤ k) (h6 : k ≤ 6) : 38 + k ∈ DU := by simp [DU]; omega
set_option maxRecDepth 20000 in
set_option maxHeartbeats 4000000 in
theorem l_wanted {w : Hp} {d : Nat} {turn cell : Int} (hT : Stc w) (hl : CL (w 3 0) (w 3 1)) (hx : Cel (w 3 0) (w 3 1) cell) (ht : 0 ≤ turn ∧ turn ≤ 5) : ∀ (k m : Nat) (b y : Int) (x6 x7 : Option PV), y = (m : Int) + 1 → m + k = 4 → b = wnt (w 3 0) (w 3 1) (w (38 + (turn + 1))) (turn % 2) cell m → WP SH (d + 1) 59 15 [some (vR 28), some (vR 3), some (vI turn), some (vI cell), some (vI b), some (vI y), x6, x7] [] w (fun v w' => v = some (vI (wnt (w 3 0) (w 3 1) (w (38 + (turn + 1))) (turn % 2) cell 4)) ∧ w' = w) := by
  intro k
  induction k with
  | zero =>
    intro m b y x6 x7 hy hmk hb
    have hd1 := duel_at hT (k := turn + 1) (by omega) (by omega)
    have hsh := hd1.2
    have hcd := hx.dm hl
    refine wp_iload (pc' := 17) rfl rfl rfl ?_
    refine wp_iconst (a := 4) (pc' := 18) rfl rfl rfl ?_
    refine wp_icmp_gt (pc' := 21) (pt := 80) rfl rfl rfl (fun q_1 => ?_) (fun q_1 => ?_)
    · skip
      refine wp_iload (pc' := 82) rfl rfl rfl ?_
      refine wp_ret rfl rfl rfl ?_
      obtain rfl : m = 4 := by omega
      exact ⟨by rw [hb], rfl⟩
    · skip
      exfalso; omega
  | succ k ih =>
    intro m b y x6 x7 hy hmk hb
    have hd1 := duel_at hT (k := turn + 1) (by omega) (by omega)
    have hsh := hd1.2
    have hcd := hx.dm hl
    refine wp_iload (pc' := 17) rfl rfl rfl ?_
    refine wp_iconst (a := 4) (pc' := 18) rfl rfl rfl ?_
    refine wp_icmp_gt (pc' := 21) (pt := 80) rfl rfl rfl (fun q_1 => ?_) (fun q_1 => ?_)
    · skip
      exfalso; omega
    · skip
      refine wp_aload_n (pc' := 22) rfl rfl rfl (by decide) ?_
      refine wp_iload_n (pc' := 23) rfl rfl rfl ?_
      refine wp_iload (pc' := 25) rfl rfl rfl ?_
      refine wp_call (pc' := 28) rfl rfl rfl rfl rfl ⟨Nat.le_of_ble_eq_true rfl, Nat.le_of_ble_eq_true rfl, Nat.le_of_ble_eq_true rfl, Nat.le_of_ble_eq_true rfl, Nat.le_of_ble_eq_true rfl⟩ rfl (c_Land_beside hl hx) ?_
      intro v1 w9 hq1
      rw [hq1.1, hq1.2]
      clear hq1 v1 w9
      have hbg := beside_ge (way := y) hl hx
      dsimp only [Option.toList, List.cons_append, List.nil_append, List.append_nil]
      refine wp_istore (pc' := 30) rfl rfl (Nat.le_of_ble_eq_true rfl) rfl ?_
      dsimp only [lset, lset2, List.set, List.getElem?_cons_zero, List.getElem?_cons_succ]
      refine wp_iload (pc' := 32) rfl rfl rfl ?_
      refine wp_iconst (a := -1) (pc' := 33) rfl rfl rfl ?_
      refine wp_icmp_eq (pc' := 36) (pt := 74) rfl rfl rfl (fun q_2 => ?_) (fun q_2 => ?_)
      · skip
        refine wp_iinc (pc' := 77) rfl rfl rfl (inc_id (by omega) (by omega)) rfl ?_
        dsimp only [lset, lset2, List.set, List.getElem?_cons_zero, List.getElem?_cons_succ]
        refine wp_goto (pc' := 15) rfl rfl ?_
        refine ih (m + 1) _ _ _ _ (by omega) (by omega) ?_
        subst hy
        rw [wnt, ← hb]
        first
        | (rw [if_pos (show sBeside (w 3 0) (w 3 1) cell ((m : Int) + 1) = -1 by omega)])
        | (rw [if_neg (show ¬ sBeside (w 3 0) (w 3 1) cell ((m : Int) + 1) = -1 by omega), if_pos (show turn % 2 = 0 by omega)])
        | (rw [if_neg (show ¬ sBeside (w 3 0) (w 3 1) cell ((m : Int) + 1) = -1 by omega), if_neg (show ¬ turn % 2 = 0 by omega)])
      · skip
        refine wp_aload_n (pc' := 37) rfl rfl rfl (by decide) ?_
        refine wp_getR (r' := 37) (ci := 5) (k0 := 2) (pc' := 40) rfl rfl (by decide) (by first | assumption | rfl) (hT.get 47 rfl) ?_
        refine wp_iload_n (pc' := 41) rfl rfl rfl ?_
        refine wp_iconst (a := 1) (pc' := 42) rfl rfl rfl ?_
        refine wp_iadd (pc' := 43) rfl rfl (by first | exact w32_id (by omega) (by omega) | rfl) ?_
        refine wp_aaload (r' := 38 + (turn + 1)) (pc' := 44) rfl rfl (by first | assumption | rfl) rfl (by omega) (hd1.1) ?_
        refine wp_iload (pc' := 46) rfl rfl rfl ?_
        refine wp_iaload (pc' := 47) rfl rfl (by first | assumption | rfl) (by omega) ?_
        refine wp_istore (pc' := 49) rfl rfl (Nat.le_of_ble_eq_true rfl) rfl ?_
        dsimp only [lset, lset2, List.set, List.getElem?_cons_zero, List.getElem?_cons_succ]
        refine wp_iload_n (pc' := 50) rfl rfl rfl ?_
        refine wp_iconst (a := 2) (pc' := 51) rfl rfl rfl ?_
        refine wp_irem (pc' := 52) rfl rfl (by omega) (by first | exact iRem_pos (by omega) (by omega) (by omega) | rfl) ?_
        refine wp_if_ne (pc' := 55) (pt := 65) rfl rfl rfl (fun q_3 => ?_) (fun q_3 => ?_)
        · skip
          refine wp_iload (pc' := 67) rfl rfl rfl ?_
          refine wp_iload (pc' := 69) rfl rfl rfl ?_
          refine wp_min (pc' := 72) rfl rfl (Nat.le_of_ble_eq_true rfl) rfl ?_
          refine wp_istore (pc' := 74) rfl rfl (Nat.le_of_ble_eq_true rfl) rfl ?_
          dsimp only [lset, lset2, List.set, List.getElem?_cons_zero, List.getElem?_cons_succ]
          refine wp_iinc (pc' := 77) rfl rfl rfl (inc_id (by omega) (by omega)) rfl ?_
          dsimp only [lset, lset2, List.set, List.getElem?_cons_zero, List.getElem?_cons_succ]
          refine wp_goto (pc' := 15) rfl rfl ?_
          refine ih (m + 1) _ _ _ _ (by omega) (by omega) ?_
          subst hy
          rw [wnt, ← hb]
          first
          | (rw [if_pos (show sBeside (w 3 0) (w 3 1) cell ((m : Int) + 1) = -1 by omega)])
          | (rw [if_neg (show ¬ sBeside (w 3 0) (w 3 1) cell ((m : Int) + 1) = -1 by omega), if_pos (show turn % 2 = 0 by omega)])
          | (rw [if_neg (show ¬ sBeside (w 3 0) (w 3 1) cell ((m : Int) + 1) = -1 by omega), if_neg (show ¬ turn % 2 = 0 by omega)])
        · skip
          refine wp_iload (pc' := 57) rfl rfl rfl ?_
          refine wp_iload (pc' := 59) rfl rfl rfl ?_
          refine wp_max (pc' := 62) rfl rfl (Nat.le_of_ble_eq_true rfl) rfl ?_
          refine wp_goto (pc' := 72) rfl rfl ?_
          refine wp_istore (pc' := 74) rfl rfl (Nat.le_of_ble_eq_true rfl) rfl ?_
          dsimp only [lset, lset2, List.set, List.getElem?_cons_zero, List.getElem?_cons_succ]
          refine wp_iinc (pc' := 77) rfl rfl rfl (inc_id (by omega) (by omega)) rfl ?_
          dsimp only [lset, lset2, List.set, List.getElem?_cons_zero, List.getElem?_cons_succ]
          refine wp_goto (pc' := 15) rfl rfl ?_
          refine ih (m + 1) _ _ _ _ (by omega) (by omega) ?_
          subst hy
          rw [wnt, ← hb]
          first
          | (rw [if_pos (show sBeside (w 3 0) (w 3 1) cell ((m : Int) + 1) = -1 by omega)])
          | (rw [if_neg (show ¬ sBeside (w 3 0) (w 3 1) cell ((m : Int) + 1) = -1 by omega), if_pos (show turn % 2 = 0 by omega)])
          | (rw [if_neg (show ¬ sBeside (w 3 0) (w 3 1) cell ((m : Int) + 1) = -1 by omega), if_neg (show ¬ turn % 2 = 0 by omega)])
set_option maxRecDepth 20000 in
set_option maxHeartbeats 4000000 in
theorem c_Plans_wanted {w : Hp} {d : Nat} {turn cell : Int} (hT : Stc w) (hl : CL (w 3 0) (w 3 1)) (hx : Cel (w 3 0) (w 3 1) cell) (ht : 0 ≤ turn ∧ turn ≤ 5) : WP SH (d + 1) 59 0 [some (vR 28), some (vR 3), some (vI turn), some (vI cell), none, none, none, none] [] w (fun v w' => v = some (vI (wnt (w 3 0) (w 3 1) (w (38 + (turn + 1))) (turn % 2) cell 4)) ∧ w' = w) := by
  have hd1 := duel_at hT (k := turn + 1) (by omega) (by omega)
  have hsh := hd1.2
  have hcd := hx.dm hl
  refine wp_aload_n (pc' := 1) rfl rfl rfl (by decide) ?_
  refine wp_getR (r' := 37) (ci := 5) (k0 := 2) (pc' := 4) rfl rfl (by decide) (by first | assumption | rfl) (hT.get 47 rfl) ?_
  refine wp_iload_n (pc' := 5) rfl rfl rfl ?_
  refine wp_iconst (a := 1) (pc' := 6) rfl rfl rfl ?_
  refine wp_iadd (pc' := 7) rfl rfl (by first | exact w32_id (by omega) (by omega) | rfl) ?_
  refine wp_aaload (r' := 38 + (turn + 1)) (pc' := 8) rfl rfl (by first | assumption | rfl) rfl (by omega) (hd1.1) ?_
  refine wp_iload_n (pc' := 9) rfl rfl rfl ?_
  refine wp_iaload (pc' := 10) rfl rfl (by first | assumption | rfl) (by omega) ?_
  refine wp_istore (pc' := 12) rfl rfl (Nat.le_of_ble_eq_true rfl) rfl ?_
  dsimp only [lset, lset2, List.set, List.getElem?_cons_zero, List.getElem?_cons_succ]
  refine wp_iconst (a := 1) (pc' := 13) rfl rfl rfl ?_
  refine wp_istore (pc' := 15) rfl rfl (Nat.le_of_ble_eq_true rfl) rfl ?_
  dsimp only [lset, lset2, List.set, List.getElem?_cons_zero, List.getElem?_cons_succ]
  exact l_wanted hT hl hx ht 4 0 _ _ _ _ rfl rfl rfl
set_option maxRecDepth 20000 in
set_option maxHeartbeats 4000000 in
theorem l_duel1 {w : Hp} {d : Nat} {n : Int} {Q : Option PV → Hp → Prop} (hT0 : Stc w) (hl : LnOK w) (hn : 0 ≤ n ∧ n ≤ 6) (K : ∀ w1 : Hp, Same w w1 DU → (∀ j : Int, 0 ≤ j → j < w 3 0 * w 3 1 → w1 (38 + n) j = (fun x => sumI (fWorth (w 3 0) (w 4) (w 5) (w 6) x) (w 3 2)) j) → WP SH (d + 3) 58 29 [some (vR 28), some (vR 3), some (vI n), some (vI (w 3 0 * w 3 1)), none] [] w1 Q) : ∀ (k : Nat) (y : Int) (w1 : Hp), 0 ≤ y → y + k = w 3 0 * w 3 1 → Same w w1 DU → (∀ j : Int, 0 ≤ j → j < y → w1 (38 + n) j = (fun x => sumI (fWorth (w 3 0) (w 4) (w 5) (w 6) x) (w 3 2)) j) → WP SH (d + 3) 58 2 [some (vR 28), some (vR 3), some (vI n), some (vI y), none] [] w1 Q := by
  intro k
  induction k with
  | zero =>
    intro y w1 h0 hyk hS hz
    have hT := hT0.same hS (by decide)
    have e3 : w1 3 = w 3 := hS 3 (by decide)
    have e4 : w1 4 = w 4 := hS 4 (by decide)
    have e5 : w1 5 = w 5 := hS 5 (by decide)
    have e6 : w1 6 = w 6 := hS 6 (by decide)
    have hl1 : LnOK w1 := hl.same hS (by decide)
    have hml := hl.1.mul
    have hml0 : w1 3 0 * w1 3 1 = w 3 0 * w 3 1 := by rw [e3]
    have hdn := duel_at hT hn.1 hn.2
    have hsh := hdn.2
    refine wp_iload_n (pc' := 3) rfl rfl rfl ?_
    refine wp_aload_n (pc' := 4) rfl rfl rfl (by decide) ?_
    refine wp_call (pc' := 7) rfl rfl rfl rfl rfl ⟨Nat.le_of_ble_eq_true rfl, Nat.le_of_ble_eq_true rfl, Nat.le_of_ble_eq_true rfl, Nat.le_of_ble_eq_true rfl, Nat.le_of_ble_eq_true rfl⟩ rfl (c_Land_cells (by omega)) ?_
    intro v1 w9 hq1
    rw [hq1.1, hq1.2]
    clear hq1 v1 w9
    dsimp only [Option.toList, List.cons_append, List.nil_append, List.append_nil]
    refine wp_icmp_ge (pc' := 10) (pt := 29) rfl rfl rfl (fun q_1 => ?_) (fun q_1 => ?_)
    · skip
      obtain rfl : y = w 3 0 * w 3 1 := by omega
      exact K w1 hS hz
    · skip
      exfalso; omega
  | succ k ih =>
    intro y w1 h0 hyk hS hz
    have hT := hT0.same hS (by decide)
    have e3 : w1 3 = w 3 := hS 3 (by decide)
    have e4 : w1 4 = w 4 := hS 4 (by decide)
    have e5 : w1 5 = w 5 := hS 5 (by decide)
    have e6 : w1 6 = w 6 := hS 6 (by decide)
    have hl1 : LnOK w1 := hl.same hS (by decide)
    have hml := hl.1.mul
    have hml0 : w1 3 0 * w1 3 1 = w 3 0 * w 3 1 := by rw [e3]
    have hdn := duel_at hT hn.1 hn.2
    have hsh := hdn.2
    refine wp_iload_n (pc' := 3) rfl rfl rfl ?_
    refine wp_aload_n (pc' := 4) rfl rfl rfl (by decide) ?_
    refine wp_call (pc' := 7) rfl rfl rfl rfl rfl ⟨Nat.le_of_ble_eq_true rfl, Nat.le_of_ble_eq_true rfl, Nat.le_of_ble_eq_true rfl, Nat.le_of_ble_eq_true rfl, Nat.le_of_ble_eq_true rfl⟩ rfl (c_Land_cells (by omega)) ?_
    intro v1 w9 hq1
    rw [hq1.1, hq1.2]
    clear hq1 v1 w9
    dsimp only [Option.toList, List.cons_append, List.nil_append, List.append_nil]
    refine wp_icmp_ge (pc' := 10) (pt := 29) rfl rfl rfl (fun q_1 => ?_) (fun q_1 => ?_)
    · skip
      exfalso; omega
    · skip
      refine wp_aload_n (pc' := 11) rfl rfl rfl (by decide) ?_
      refine wp_getR (r' := 37) (ci := 5) (k0 := 2) (pc' := 14) rfl rfl (by decide) (by first | assumption | rfl) (hT.get 47 rfl) ?_
      refine wp_iload_n (pc' := 15) rfl rfl rfl ?_
      refine wp_aaload (r' := 38 + n) (pc' := 16) rfl rfl (by first | assumption | rfl) rfl (by omega) (hdn.1) ?_
      refine wp_iload_n (pc' := 17) rfl rfl rfl ?_
      refine wp_aload_n (pc' := 18) rfl rfl rfl (by decide) ?_
      refine wp_iload_n (pc' := 19) rfl rfl rfl ?_
      refine wp_call (pc' := 22) rfl rfl rfl rfl rfl ⟨Nat.le_of_ble_eq_true rfl, Nat.le_of_ble_eq_true rfl, Nat.le_of_ble_eq_true rfl, Nat.le_of_ble_eq_true rfl, Nat.le_of_ble_eq_true rfl⟩ rfl (c_Land_worth hl1 hT ⟨h0, by omega⟩) ?_
      intro v1 w9 hq1
      rw [hq1.1, hq1.2]
      clear hq1 v1 w9
      dsimp only [Option.toList, List.cons_append, List.nil_append, List.append_nil]
      refine wp_iastore (pc' := 23) rfl rfl (by first | assumption | rfl) (by omega) ?_
      refine wp_iinc (pc' := 26) rfl rfl rfl (inc_id (by omega) (by omega)) rfl ?_
      dsimp only [lset, lset2, List.set, List.getElem?_cons_zero, List.getElem?_cons_succ]
      refine wp_goto (pc' := 2) rfl rfl ?_
      refine ih (y + 1) _ (by omega) (by omega) (hS.put (du_mem hn.1 hn.2)) (fun j j0 j1 => ?_)
      by_cases hj : j = y
      · rw [hj, up_eq, e3, e4, e5, e6]
      · rw [up_at hj]
        exact hz j j0 (by omega)
set_option maxRecDepth 20000 in
set_option maxHeartbeats 4000000 in
theorem l_duel2 {w : Hp} {d : Nat} {n turn : Int} {q : Nat} {Q : Option PV → Hp → Prop} (hT0 : Stc w) (hl : LnOK w) (hn : 0 ≤ n ∧ n ≤ 6) (ht : 0 ≤ turn ∧ turn < n) (hq : turn + 1 + q = n) (K : ∀ (w1 : Hp), Same w w1 DU → (∀ j : Int, 0 ≤ j → j < w 3 0 * w 3 1 → w1 (38 + turn) j = (dlv (w 3 0) (w 3 1) n (fun x => sumI (fWorth (w 3 0) (w 4) (w 5) (w 6) x) (w 3 2)) (q + 1)) j) → WP SH (d + 3) 58 72 [some (vR 28), some (vR 3), some (vI n), some (vI turn), some (vI (w 3 0 * w 3 1))] [] w1 Q) : ∀ (k : Nat) (y : Int) (w1 : Hp), 0 ≤ y → y + k = w 3 0 * w 3 1 → Same w w1 DU → (∀ j : Int, 0 ≤ j → j < w 3 0 * w 3 1 → w1 (38 + (turn + 1)) j = (dlv (w 3 0) (w 3 1) n (fun x => sumI (fWorth (w 3 0) (w 4) (w 5) (w 6) x) (w 3 2)) q) j) → (∀ j : Int, 0 ≤ j → j < y → w1 (38 + turn) j = (dlv (w 3 0) (w 3 1) n (fun x => sumI (fWorth (w 3 0) (w 4) (w 5) (w 6) x) (w 3 2)) (q + 1)) j) → WP SH (d + 3) 58 40 [some (vR 28), some (vR 3), some (vI n), some (vI turn), some (vI y)] [] w1 Q := by
  intro k
  induction k with
  | zero =>
    intro y w1 h0 hyk hS he hz
    have hT := hT0.same hS (by decide)
    have e3 : w1 3 = w 3 := hS 3 (by decide)
    have e4 : w1 4 = w 4 := hS 4 (by decide)
    have e5 : w1 5 = w 5 := hS 5 (by decide)
    have e6 : w1 6 = w 6 := hS 6 (by decide)
    have hl1 : LnOK w1 := hl.same hS (by decide)
    have hml := hl.1.mul
    have hml0 : w1 3 0 * w1 3 1 = w 3 0 * w 3 1 := by rw [e3]
    have hdn := duel_at hT (k := turn) (by omega) (by omega)
    have hsh := hdn.2
    refine wp_iload (pc' := 42) rfl rfl rfl ?_
    refine wp_aload_n (pc' := 43) rfl rfl rfl (by decide) ?_
    refine wp_call (pc' := 46) rfl rfl rfl rfl rfl ⟨Nat.le_of_ble_eq_true rfl, Nat.le_of_ble_eq_true rfl, Nat.le_of_ble_eq_true rfl, Nat.le_of_ble_eq_true rfl, Nat.le_of_ble_eq_true rfl⟩ rfl (c_Land_cells (by omega)) ?_
    intro v1 w9 hq1
    rw [hq1.1, hq1.2]
    clear hq1 v1 w9
    dsimp only [Option.toList, List.cons_append, List.nil_append, List.append_nil]
    refine wp_icmp_ge (pc' := 49) (pt := 72) rfl rfl rfl (fun q_1 => ?_) (fun q_1 => ?_)
    · skip
      obtain rfl : y = w 3 0 * w 3 1 := by omega
      exact K w1 hS hz
    · skip
      exfalso; omega
  | succ k ih =>
    intro y w1 h0 hyk hS he hz
    have hT := hT0.same hS (by decide)
    have e3 : w1 3 = w 3 := hS 3 (by decide)
    have e4 : w1 4 = w 4 := hS 4 (by decide)
    have e5 : w1 5 = w 5 := hS 5 (by decide)
    have e6 : w1 6 = w 6 := hS 6 (by decide)
    have hl1 : LnOK w1 := hl.same hS (by decide)
    have hml := hl.1.mul
    have hml0 : w1 3 0 * w1 3 1 = w 3 0 * w 3 1 := by rw [e3]
    have hdn := duel_at hT (k := turn) (by omega) (by omega)
    have hsh := hdn.2
    refine wp_iload (pc' := 42) rfl rfl rfl ?_
    refine wp_aload_n (pc' := 43) rfl rfl rfl (by decide) ?_
    refine wp_call (pc' := 46) rfl rfl rfl rfl rfl ⟨Nat.le_of_ble_eq_true rfl, Nat.le_of_ble_eq_true rfl, Nat.le_of_ble_eq_true rfl, Nat.le_of_ble_eq_true rfl, Nat.le_of_ble_eq_true rfl⟩ rfl (c_Land_cells (by omega)) ?_
    intro v1 w9 hq1
    rw [hq1.1, hq1.2]
    clear hq1 v1 w9
    dsimp only [Option.toList, List.cons_append, List.nil_append, List.append_nil]
    refine wp_icmp_ge (pc' := 49) (pt := 72) rfl rfl rfl (fun q_1 => ?_) (fun q_1 => ?_)
    · skip
      exfalso; omega
    · skip
      refine wp_aload_n (pc' := 50) rfl rfl rfl (by decide) ?_
      refine wp_getR (r' := 37) (ci := 5) (k0 := 2) (pc' := 53) rfl rfl (by decide) (by first | assumption | rfl) (hT.get 47 rfl) ?_
      refine wp_iload_n (pc' := 54) rfl rfl rfl ?_
      refine wp_aaload (r' := 38 + turn) (pc' := 55) rfl rfl (by first | assumption | rfl) rfl (by omega) (hdn.1) ?_
      refine wp_iload (pc' := 57) rfl rfl rfl ?_
      refine wp_aload_n (pc' := 58) rfl rfl rfl (by decide) ?_
      refine wp_aload_n (pc' := 59) rfl rfl rfl (by decide) ?_
      refine wp_iload_n (pc' := 60) rfl rfl rfl ?_
      refine wp_iload (pc' := 62) rfl rfl rfl ?_
      refine wp_call (pc' := 65) rfl rfl rfl rfl rfl ⟨Nat.le_of_ble_eq_true rfl, Nat.le_of_ble_eq_true rfl, Nat.le_of_ble_eq_true rfl, Nat.le_of_ble_eq_true rfl, Nat.le_of_ble_eq_true rfl⟩ rfl (c_Plans_wanted hT hl1.1 ⟨h0, by omega⟩ (by omega)) ?_
      intro v1 w9 hq1
      rw [hq1.1, hq1.2]
      clear hq1 v1 w9
      dsimp only [Option.toList, List.cons_append, List.nil_append, List.append_nil]
      refine wp_iastore (pc' := 66) rfl rfl (by first | assumption | rfl) (by omega) ?_
      refine wp_iinc (pc' := 69) rfl rfl rfl (inc_id (by omega) (by omega)) rfl ?_
      dsimp only [lset, lset2, List.set, List.getElem?_cons_zero, List.getElem?_cons_succ]
      refine wp_goto (pc' := 40) rfl rfl ?_
      refine ih (y + 1) _ (by omega) (by omega) (hS.put (du_mem (by omega) (by omega))) (fun j j0 j1 => ?_) (fun j j0 j1 => ?_)
      · rw [up_ne (by omega)]
        exact he j j0 j1
      · by_cases hj : j = y
        · rw [hj, up_eq, e3]
          show _ = wnt _ _ _ _ _ 4
          rw [show n - 1 - (q : Int) = turn by omega]
          exact wnt_congr hl.1 ⟨h0, by omega⟩ (fun j hj => he j hj.1 hj.2) 4
        · rw [up_at hj]
          exact hz j j0 (by omega)
set_option maxRecDepth 20000 in
set_option maxHeartbeats 4000000 in
theorem l_duel3 {w : Hp} {d : Nat} {n : Int} (hT0 : Stc w) (hl : LnOK w) (hx : Cel (w 3 0) (w 3 1) (w 3 3)) (hn : 0 ≤ n ∧ n ≤ 6) : ∀ (k q : Nat) (turn : Int) (w1 : Hp) (x4 : Option PV), turn = (k : Int) - 1 → (k : Int) + q = n → Same w w1 DU → (∀ j : Int, 0 ≤ j → j < w 3 0 * w 3 1 → w1 (38 + (turn + 1)) j = (dlv (w 3 0) (w 3 1) n (fun x => sumI (fWorth (w 3 0) (w 4) (w 5) (w 6) x) (w 3 2)) q) j) → WP SH (d + 3) 58 33 [some (vR 28), some (vR 3), some (vI n), some (vI turn), x4] [] w1 (fun v w' => v = some (vI ((dlv (w 3 0) (w 3 1) n (fun x => sumI (fWorth (w 3 0) (w 4) (w 5) (w 6) x) (w 3 2)) n.toNat) (w 3 3))) ∧ Same w w' DU) := by
  intro k
  induction k with
  | zero =>
    intro q turn w1 x4 hturn hkq hS he
    have hT := hT0.same hS (by decide)
    have e3 : w1 3 = w 3 := hS 3 (by decide)
    have e4 : w1 4 = w 4 := hS 4 (by decide)
    have e5 : w1 5 = w 5 := hS 5 (by decide)
    have e6 : w1 6 = w 6 := hS 6 (by decide)
    have hl1 : LnOK w1 := hl.same hS (by decide)
    have hml := hl.1.mul
    have hml0 : w1 3 0 * w1 3 1 = w 3 0 * w 3 1 := by rw [e3]
    have hd0 := duel_at hT (k := 0) (by decide) (by decide)
    have hsh := hd0.2
    have hxd := hx.dm hl.1
    have hx1 : w1 3 3 = w 3 3 := by rw [e3]
    refine wp_iload_n (pc' := 34) rfl rfl rfl ?_
    refine wp_if_lt (pc' := 37) (pt := 78) rfl rfl rfl (fun q_1 => ?_) (fun q_1 => ?_)
    · skip
      refine wp_aload_n (pc' := 79) rfl rfl rfl (by decide) ?_
      refine wp_getR (r' := 37) (ci := 5) (k0 := 2) (pc' := 82) rfl rfl (by decide) (by first | assumption | rfl) (hT.get 47 rfl) ?_
      refine wp_iconst (a := 0) (pc' := 83) rfl rfl rfl ?_
      refine wp_aaload (r' := 38 + 0) (pc' := 84) rfl rfl (by first | assumption | rfl) rfl (by omega) (hd0.1) ?_
      refine wp_aload_n (pc' := 85) rfl rfl rfl (by decide) ?_
      refine wp_getI (ci := 3) (k0 := 3) (pc' := 88) rfl rfl (by decide) (by first | assumption | rfl) ?_
      refine wp_iaload (pc' := 89) rfl rfl (by first | assumption | rfl) (by omega) ?_
      refine wp_ret rfl rfl rfl ?_
      refine ⟨congrArg (fun z => some (vI z)) ?_, hS⟩
      have h8 := he (w 3 3) hx.1 hx.2
      rw [show (38 : Int) + (turn + 1) = 38 + 0 by omega, show q = n.toNat by omega] at h8
      rw [e3]
      exact h8
    · skip
      exfalso; omega
  | succ k ih =>
    intro q turn w1 x4 hturn hkq hS he
    have hT := hT0.same hS (by decide)
    have e3 : w1 3 = w 3 := hS 3 (by decide)
    have e4 : w1 4 = w 4 := hS 4 (by decide)
    have e5 : w1 5 = w 5 := hS 5 (by decide)
    have e6 : w1 6 = w 6 := hS 6 (by decide)
    have hl1 : LnOK w1 := hl.same hS (by decide)
    have hml := hl.1.mul
    have hml0 : w1 3 0 * w1 3 1 = w 3 0 * w 3 1 := by rw [e3]
    have hd0 := duel_at hT (k := 0) (by decide) (by decide)
    have hsh := hd0.2
    have hxd := hx.dm hl.1
    have hx1 : w1 3 3 = w 3 3 := by rw [e3]
    refine wp_iload_n (pc' := 34) rfl rfl rfl ?_
    refine wp_if_lt (pc' := 37) (pt := 78) rfl rfl rfl (fun q_1 => ?_) (fun q_1 => ?_)
    · skip
      exfalso; omega
    · skip
      refine wp_iconst (a := 0) (pc' := 38) rfl rfl rfl ?_
      refine wp_istore (pc' := 40) rfl rfl (Nat.le_of_ble_eq_true rfl) rfl ?_
      dsimp only [lset, lset2, List.set, List.getElem?_cons_zero, List.getElem?_cons_succ]
      refine l_duel2 (w := w1) (q := q) hT hl1 hn (by omega) (by omega) (fun w2 hS2 hz2 => ?_) (w1 3 0 * w1 3 1).toNat 0 w1 (by decide) (by omega) (Same.rf _ _) (by rw [e3, e4, e5, e6]; exact he) (fun j a b => absurd b (by omega))
      refine wp_iinc (pc' := 75) rfl rfl rfl (inc_id (by omega) (by omega)) rfl ?_
      dsimp only [lset, lset2, List.set, List.getElem?_cons_zero, List.getElem?_cons_succ]
      refine wp_goto (pc' := 33) rfl rfl ?_
      exact ih (q + 1) _ w2 _ (by omega) (by omega) (hS.tr hS2) (by
        rw [show turn + -1 + 1 = turn by omega]
        intro j j0 j1
        have := hz2 j j0 (by rw [e3]; exact j1)
        rw [e3, e4, e5, e6] at this
        exact this)
set_option maxRecDepth 20000 in
set_option maxHeartbeats 4000000 in
theorem c_Plans_duelWorth {w : Hp} {d : Nat} {n : Int} (hT : Stc w) (hl : LnOK w) (hx : Cel (w 3 0) (w 3 1) (w 3 3)) (hn : 0 ≤ n ∧ n ≤ 6) : WP SH (d + 3) 58 0 [some (vR 28), some (vR 3), some (vI n), none, none] [] w (fun v w' => v = some (vI ((dlv (w 3 0) (w 3 1) n (fun x => sumI (fWorth (w 3 0) (w 4) (w 5) (w 6) x) (w 3 2)) n.toNat) (w 3 3))) ∧ Same w w' DU) := by
  refine wp_iconst (a := 0) (pc' := 1) rfl rfl rfl ?_
  refine wp_istore_n (pc' := 2) rfl rfl (Nat.le_of_ble_eq_true rfl) rfl ?_
  dsimp only [lset, lset2, List.set, List.getElem?_cons_zero, List.getElem?_cons_succ]
  have hml := hl.1.mul
  refine l_duel1 hT hl hn (fun w1 hS1 hz1 => ?_) (w 3 0 * w 3 1).toNat 0 w (by decide) (by omega) (Same.rf _ _) (fun j a b => absurd b (by omega))
  refine wp_iload_n (pc' := 30) rfl rfl rfl ?_
  refine wp_iconst (a := 1) (pc' := 31) rfl rfl rfl ?_
  refine wp_isub (pc' := 32) rfl rfl (by first | exact w32_id (by omega) (by omega) | rfl) ?_
  refine wp_istore_n (pc' := 33) rfl rfl (Nat.le_of_ble_eq_true rfl) rfl ?_
  dsimp only [lset, lset2, List.set, List.getElem?_cons_zero, List.getElem?_cons_succ]
  refine (l_duel3 hT hl hx hn n.toNat 0 _ w1 _ (by omega) (by omega) hS1 ?_)
  rw [show n - 1 + 1 = n by omega]
  exact hz1
set_option maxRecDepth 20000 in
set_option maxHeartbeats 4000000 in
theorem l_Mduel1 {w : Hp} {d : Nat} {n x2 : Int} {Q : Option PV → Hp → Prop} (hT0 : Stc w) (hl : MdOK w) (K : ∀ w1 : Hp, Same w w1 [122, 123] → (∀ j : Int, 0 ≤ j → j < w 100 11 * w 100 12 → w1 122 j = (fun x => sumI (fWorth (w 100 11) (w 107) (fun i => w 109 (3 + i)) (w 108) x) (w 100 10)) j) → WP SH (d + 5) 219 56 [some (vR 100), some (vI n), some (vI x2), some (vI (w 100 11 * w 100 12)), some (vI (w 100 11 * w 100 12)), none, none, none, none] [] w1 Q) : ∀ (k : Nat) (y : Int) (w1 : Hp), 0 ≤ y → y + k = w 100 11 * w 100 12 → Same w w1 [122, 123] → (∀ j : Int, 0 ≤ j → j < y → w1 122 j = (fun x => sumI (fWorth (w 100 11) (w 107) (fun i => w 109 (3 + i)) (w 108) x) (w 100 10)) j) → WP SH (d + 5) 219 31 [some (vR 100), some (vI n), some (vI x2), some (vI (w 100 11 * w 100 12)), some (vI y), none, none, none, none] [] w1 Q := by
  intro k
  induction k with
  | zero =>
    intro y w1 h0 hyk hS hz
    have hT := hT0.same hS (by decide)
    have e1 : w1 100 = w 100 := hS 100 (by decide)
    have e7 : w1 107 = w 107 := hS 107 (by decide)
    have e8 : w1 108 = w 108 := hS 108 (by decide)
    have e9 : w1 109 = w 109 := hS 109 (by decide)
    have hl1 : MdOK w1 := hl.same hS (by decide)
    have hml := hl.1.mul
    have hml0 : w1 100 11 * w1 100 12 = w 100 11 * w 100 12 := by rw [e1]
    refine wp_iload (pc' := 33) rfl rfl rfl ?_
    refine wp_iload_n (pc' := 34) rfl rfl rfl ?_
    refine wp_icmp_ge (pc' := 37) (pt := 56) rfl rfl rfl (fun q_1 => ?_) (fun q_1 => ?_)
    · skip
      obtain rfl : y = w 100 11 * w 100 12 := by omega
      exact K w1 hS hz
    · skip
      exfalso; omega
  | succ k ih =>
    intro y w1 h0 hyk hS hz
    have hT := hT0.same hS (by decide)
    have e1 : w1 100 = w 100 := hS 100 (by decide)
    have e7 : w1 107 = w 107 := hS 107 (by decide)
    have e8 : w1 108 = w 108 := hS 108 (by decide)
    have e9 : w1 109 = w 109 := hS 109 (by decide)
    have hl1 : MdOK w1 := hl.same hS (by decide)
    have hml := hl.1.mul
    have hml0 : w1 100 11 * w1 100 12 = w 100 11 * w 100 12 := by rw [e1]
    refine wp_iload (pc' := 33) rfl rfl rfl ?_
    refine wp_iload_n (pc' := 34) rfl rfl rfl ?_
    refine wp_icmp_ge (pc' := 37) (pt := 56) rfl rfl rfl (fun q_1 => ?_) (fun q_1 => ?_)
    · skip
      exfalso; omega
    · skip
      refine wp_aload_n (pc' := 38) rfl rfl rfl (by decide) ?_
      refine wp_getR (r' := 122) (ci := 10) (k0 := 32) (pc' := 41) rfl rfl (by decide) (by first | assumption | rfl) (hT.get 120 rfl) ?_
      refine wp_iload (pc' := 43) rfl rfl rfl ?_
      refine wp_aload_n (pc' := 44) rfl rfl rfl (by decide) ?_
      refine wp_iload (pc' := 46) rfl rfl rfl ?_
      refine wp_call (pc' := 49) rfl rfl rfl rfl rfl ⟨Nat.le_of_ble_eq_true rfl, Nat.le_of_ble_eq_true rfl, Nat.le_of_ble_eq_true rfl, Nat.le_of_ble_eq_true rfl, Nat.le_of_ble_eq_true rfl⟩ rfl (c_Mod_all hl1 hT ⟨h0, by omega⟩) ?_
      intro v1 w9 hq1
      rw [hq1.1, hq1.2]
      clear hq1 v1 w9
      dsimp only [Option.toList, List.cons_append, List.nil_append, List.append_nil]
      refine wp_iastore (pc' := 50) rfl rfl (by first | assumption | rfl) (by omega) ?_
      refine wp_iinc (pc' := 53) rfl rfl rfl (inc_id (by omega) (by omega)) rfl ?_
      dsimp only [lset, lset2, List.set, List.getElem?_cons_zero, List.getElem?_cons_succ]
      refine wp_goto (pc' := 31) rfl rfl ?_
      refine ih (y + 1) _ (by omega) (by omega) (hS.put (by decide)) (fun j j0 j1 => ?_)
      by_cases hj : j = y
      · rw [hj, up_eq, e1, e7, e8, e9]
      · rw [up_at hj]
        exact hz j j0 (by omega)
set_option maxRecDepth 20000 in
set_option maxHeartbeats 4000000 in
theorem l_Mduel2 {w : Hp} {d : Nat} {n x2 turn cell : Int} {Q : Option PV → Hp → Prop} (hT0 : Stc w) (hl : MdOK w) (ht : 0 ≤ turn ∧ turn ≤ 5) (hx : Cel (w 100 11) (w 100 12) cell) (K : ∀ (w1 : Hp) (x6 x7 x8 : Option PV), SameF w w1 [] [(123, cell)] → w1 123 cell = wnt (w 100 11) (w 100 12) (w 122) (turn % 2) cell 4 → WP SH (d + 1) 219 210 [some (vR 100), some (vI n), some (vI x2), some (vI (w 100 11 * w 100 12)), some (vI turn), some (vI cell), x6, x7, x8] [] w1 Q) : ∀ (k m : Nat) (y : Int) (w1 : Hp) (x7 x8 : Option PV), y = (m : Int) + 1 → m + k = 4 → SameF w w1 [] [(123, cell)] → w1 123 cell = wnt (w 100 11) (w 100 12) (w 122) (turn % 2) cell m → WP SH (d + 1) 219 92 [some (vR 100), some (vI n), some (vI x2), some (vI (w 100 11 * w 100 12)), some (vI turn), some (vI cell), some (vI y), x7, x8] [] w1 Q := by
  intro k
  induction k with
  | zero =>
    intro m y w1 x7 x8 hy hmk hS hz
    have hT := hT0.sameF (L := [123]) (F := []) (hS.mono (fun r hr => absurd hr (by simp)) (fun q hq => Or.inr (by simp at hq; rw [hq]; simp))) (by decide)
    have e1 : w1 100 = w 100 := hS.cell 100 (by simp) (by simp)
    have e22 : w1 122 = w 122 := hS.cell 122 (by simp) (by simp)
    have hc1 : CL (w1 100 11) (w1 100 12) := by rw [e1]; exact hl.1
    have hx1 : Cel (w1 100 11) (w1 100 12) cell := by rw [e1]; exact hx
    have hcd := hx.dm hl.1
    have hwi := @wnt_in (w 100 11) (w 100 12) (w 122) (turn % 2) cell m
    rw [← hz] at hwi
    have hwi1 := hwi.1
    have hwi2 := hwi.2
    rw [← e22] at hwi1 hwi2
    refine wp_iload (pc' := 94) rfl rfl rfl ?_
    refine wp_iconst (a := 4) (pc' := 95) rfl rfl rfl ?_
    refine wp_icmp_gt (pc' := 98) (pt := 210) rfl rfl rfl (fun q_1 => ?_) (fun q_1 => ?_)
    · skip
      obtain rfl : m = 4 := by omega
      exact K w1 _ _ _ hS hz
    · skip
      exfalso; omega
  | succ k ih =>
    intro m y w1 x7 x8 hy hmk hS hz
    have hT := hT0.sameF (L := [123]) (F := []) (hS.mono (fun r hr => absurd hr (by simp)) (fun q hq => Or.inr (by simp at hq; rw [hq]; simp))) (by decide)
    have e1 : w1 100 = w 100 := hS.cell 100 (by simp) (by simp)
    have e22 : w1 122 = w 122 := hS.cell 122 (by simp) (by simp)
    have hc1 : CL (w1 100 11) (w1 100 12) := by rw [e1]; exact hl.1
    have hx1 : Cel (w1 100 11) (w1 100 12) cell := by rw [e1]; exact hx
    have hcd := hx.dm hl.1
    have hwi := @wnt_in (w 100 11) (w 100 12) (w 122) (turn % 2) cell m
    rw [← hz] at hwi
    have hwi1 := hwi.1
    have hwi2 := hwi.2
    rw [← e22] at hwi1 hwi2
    refine wp_iload (pc' := 94) rfl rfl rfl ?_
    refine wp_iconst (a := 4) (pc' := 95) rfl rfl rfl ?_
    refine wp_icmp_gt (pc' := 98) (pt := 210) rfl rfl rfl (fun q_1 => ?_) (fun q_1 => ?_)
    · skip
      exfalso; omega
    · skip
      refine wp_aload_n (pc' := 99) rfl rfl rfl (by decide) ?_
      refine wp_iload (pc' := 101) rfl rfl rfl ?_
      refine wp_iload (pc' := 103) rfl rfl rfl ?_
      refine wp_call (pc' := 106) rfl rfl rfl rfl rfl ⟨Nat.le_of_ble_eq_true rfl, Nat.le_of_ble_eq_true rfl, Nat.le_of_ble_eq_true rfl, Nat.le_of_ble_eq_true rfl, Nat.le_of_ble_eq_true rfl⟩ rfl (c_Mod_beside hc1 (by omega) hx1) ?_
      intro v1 w9 hq1
      rw [hq1.1, hq1.2]
      clear hq1 v1 w9
      rw [e1]
      have hbg := beside_ge (way := y) hl.1 hx
      dsimp only [Option.toList, List.cons_append, List.nil_append, List.append_nil]
      refine wp_if_ge (pc' := 109) (pt := 119) rfl rfl rfl (fun q_2 => ?_) (fun q_2 => ?_)
      · skip
        refine wp_aload_n (pc' := 120) rfl rfl rfl (by decide) ?_
        refine wp_getR (r' := 122) (ci := 10) (k0 := 32) (pc' := 123) rfl rfl (by decide) (by first | assumption | rfl) (hT.get 120 rfl) ?_
        refine wp_aload_n (pc' := 124) rfl rfl rfl (by decide) ?_
        refine wp_iload (pc' := 126) rfl rfl rfl ?_
        refine wp_iload (pc' := 128) rfl rfl rfl ?_
        refine wp_call (pc' := 131) rfl rfl rfl rfl rfl ⟨Nat.le_of_ble_eq_true rfl, Nat.le_of_ble_eq_true rfl, Nat.le_of_ble_eq_true rfl, Nat.le_of_ble_eq_true rfl, Nat.le_of_ble_eq_true rfl⟩ rfl (c_Mod_beside hc1 (by omega) hx1) ?_
        intro v1 w9 hq1
        rw [hq1.1, hq1.2]
        clear hq1 v1 w9
        rw [e1]
        have hbg := beside_ge (way := y) hl.1 hx
        dsimp only [Option.toList, List.cons_append, List.nil_append, List.append_nil]
        refine wp_iaload (pc' := 132) rfl rfl (by first | assumption | rfl) (by omega) ?_
        refine wp_istore (pc' := 134) rfl rfl (Nat.le_of_ble_eq_true rfl) rfl ?_
        dsimp only [lset, lset2, List.set, List.getElem?_cons_zero, List.getElem?_cons_succ]
        refine wp_iload (pc' := 136) rfl rfl rfl ?_
        refine wp_iconst (a := 2) (pc' := 137) rfl rfl rfl ?_
        refine wp_irem (pc' := 138) rfl rfl (by omega) (by first | exact iRem_pos (by omega) (by omega) (by omega) | rfl) ?_
        refine wp_if_ne (pc' := 141) (pt := 161) rfl rfl rfl (fun q_3 => ?_) (fun q_3 => ?_)
        · skip
          refine wp_iload (pc' := 163) rfl rfl rfl ?_
          refine wp_aload_n (pc' := 164) rfl rfl rfl (by decide) ?_
          refine wp_getR (r' := 123) (ci := 10) (k0 := 33) (pc' := 167) rfl rfl (by decide) (by first | assumption | rfl) (hT.get 121 rfl) ?_
          refine wp_iload (pc' := 169) rfl rfl rfl ?_
          refine wp_iaload (pc' := 170) rfl rfl (by first | assumption | rfl) (by omega) ?_
          refine wp_icmp_ge (pc' := 173) (pt := 177) rfl rfl rfl (fun q_4 => ?_) (fun q_4 => ?_)
          · skip
            refine wp_iconst (a := 0) (pc' := 178) rfl rfl rfl ?_
            refine wp_istore (pc' := 180) rfl rfl (Nat.le_of_ble_eq_true rfl) rfl ?_
            dsimp only [lset, lset2, List.set, List.getElem?_cons_zero, List.getElem?_cons_succ]
            refine wp_aload_n (pc' := 181) rfl rfl rfl (by decide) ?_
            refine wp_getR (r' := 123) (ci := 10) (k0 := 33) (pc' := 184) rfl rfl (by decide) (by first | assumption | rfl) (hT.get 121 rfl) ?_
            refine wp_iload (pc' := 186) rfl rfl rfl ?_
            refine wp_iload (pc' := 188) rfl rfl rfl ?_
            refine wp_if_eq (pc' := 191) (pt := 196) rfl rfl rfl (fun q_5 => ?_) (fun q_5 => absurd (by decide) q_5)
            refine wp_aload_n (pc' := 197) rfl rfl rfl (by decide) ?_
            refine wp_getR (r' := 123) (ci := 10) (k0 := 33) (pc' := 200) rfl rfl (by decide) (by first | assumption | rfl) (hT.get 121 rfl) ?_
            refine wp_iload (pc' := 202) rfl rfl rfl ?_
            refine wp_iaload (pc' := 203) rfl rfl (by first | assumption | rfl) (by omega) ?_
            refine wp_iastore (pc' := 204) rfl rfl (by first | assumption | rfl) (by omega) ?_
            refine wp_iinc (pc' := 207) rfl rfl rfl (inc_id (by omega) (by omega)) rfl ?_
            dsimp only [lset, lset2, List.set, List.getElem?_cons_zero, List.getElem?_cons_succ]
            refine wp_goto (pc' := 92) rfl rfl ?_
            refine ih (m + 1) _ _ _ _ (by omega) (by omega) (hS.put (Or.inr (by simp))) ?_
            subst hy
            rw [up_eq, wnt, ← hz, ← e22]
            first
            | (exfalso; omega)
            | (rw [if_pos (show sBeside (w 100 11) (w 100 12) cell ((m : Int) + 1) = -1 by omega)])
            | (rw [if_neg (show ¬ sBeside (w 100 11) (w 100 12) cell ((m : Int) + 1) = -1 by omega), if_pos (show turn % 2 = 0 by omega)]
               first | (rw [if_pos (by omega)]) | (rw [if_neg (by omega)]))
            | (rw [if_neg (show ¬ sBeside (w 100 11) (w 100 12) cell ((m : Int) + 1) = -1 by omega), if_neg (show ¬ turn % 2 = 0 by omega)]
               first | (rw [if_pos (by omega)]) | (rw [if_neg (by omega)]))
          · skip
            refine wp_iconst (a := 1) (pc' := 174) rfl rfl rfl ?_
            refine wp_goto (pc' := 178) rfl rfl ?_
            refine wp_istore (pc' := 180) rfl rfl (Nat.le_of_ble_eq_true rfl) rfl ?_
            dsimp only [lset, lset2, List.set, List.getElem?_cons_zero, List.getElem?_cons_succ]
            refine wp_aload_n (pc' := 181) rfl rfl rfl (by decide) ?_
            refine wp_getR (r' := 123) (ci := 10) (k0 := 33) (pc' := 184) rfl rfl (by decide) (by first | assumption | rfl) (hT.get 121 rfl) ?_
            refine wp_iload (pc' := 186) rfl rfl rfl ?_
            refine wp_iload (pc' := 188) rfl rfl rfl ?_
            refine wp_if_eq (pc' := 191) (pt := 196) rfl rfl rfl (fun q_6 => absurd q_6 (by decide)) (fun q_6 => ?_)
            refine wp_iload (pc' := 193) rfl rfl rfl ?_
            refine wp_goto (pc' := 203) rfl rfl ?_
            refine wp_iastore (pc' := 204) rfl rfl (by first | assumption | rfl) (by omega) ?_
            refine wp_iinc (pc' := 207) rfl rfl rfl (inc_id (by omega) (by omega)) rfl ?_
            dsimp only [lset, lset2, List.set, List.getElem?_cons_zero, List.getElem?_cons_succ]
            refine wp_goto (pc' := 92) rfl rfl ?_
            refine ih (m + 1) _ _ _ _ (by omega) (by omega) (hS.put (Or.inr (by simp))) ?_
            subst hy
            rw [up_eq, wnt, ← hz, ← e22]
            first
            | (exfalso; omega)
            | (rw [if_pos (show sBeside (w 100 11) (w 100 12) cell ((m : Int) + 1) = -1 by omega)])
            | (rw [if_neg (show ¬ sBeside (w 100 11) (w 100 12) cell ((m : Int) + 1) = -1 by omega), if_pos (show turn % 2 = 0 by omega)]
               first | (rw [if_pos (by omega)]) | (rw [if_neg (by omega)]))
            | (rw [if_neg (show ¬ sBeside (w 100 11) (w 100 12) cell ((m : Int) + 1) = -1 by omega), if_neg (show ¬ turn % 2 = 0 by omega)]
               first | (rw [if_pos (by omega)]) | (rw [if_neg (by omega)]))
        · skip
          refine wp_iload (pc' := 143) rfl rfl rfl ?_
          refine wp_aload_n (pc' := 144) rfl rfl rfl (by decide) ?_
          refine wp_getR (r' := 123) (ci := 10) (k0 := 33) (pc' := 147) rfl rfl (by decide) (by first | assumption | rfl) (hT.get 121 rfl) ?_
          refine wp_iload (pc' := 149) rfl rfl rfl ?_
          refine wp_iaload (pc' := 150) rfl rfl (by first | assumption | rfl) (by omega) ?_
          refine wp_icmp_le (pc' := 153) (pt := 157) rfl rfl rfl (fun q_7 => ?_) (fun q_7 => ?_)
          · skip
            refine wp_iconst (a := 0) (pc' := 158) rfl rfl rfl ?_
            refine wp_goto (pc' := 178) rfl rfl ?_
            refine wp_istore (pc' := 180) rfl rfl (Nat.le_of_ble_eq_true rfl) rfl ?_
            dsimp only [lset, lset2, List.set, List.getElem?_cons_zero, List.getElem?_cons_succ]
            refine wp_aload_n (pc' := 181) rfl rfl rfl (by decide) ?_
            refine wp_getR (r' := 123) (ci := 10) (k0 := 33) (pc' := 184) rfl rfl (by decide) (by first | assumption | rfl) (hT.get 121 rfl) ?_
            refine wp_iload (pc' := 186) rfl rfl rfl ?_
            refine wp_iload (pc' := 188) rfl rfl rfl ?_
            refine wp_if_eq (pc' := 191) (pt := 196) rfl rfl rfl (fun q_8 => ?_) (fun q_8 => absurd (by decide) q_8)
            refine wp_aload_n (pc' := 197) rfl rfl rfl (by decide) ?_
            refine wp_getR (r' := 123) (ci := 10) (k0 := 33) (pc' := 200) rfl rfl (by decide) (by first | assumption | rfl) (hT.get 121 rfl) ?_
            refine wp_iload (pc' := 202) rfl rfl rfl ?_
            refine wp_iaload (pc' := 203) rfl rfl (by first | assumption | rfl) (by omega) ?_
            refine wp_iastore (pc' := 204) rfl rfl (by first | assumption | rfl) (by omega) ?_
            refine wp_iinc (pc' := 207) rfl rfl rfl (inc_id (by omega) (by omega)) rfl ?_
            dsimp only [lset, lset2, List.set, List.getElem?_cons_zero, List.getElem?_cons_succ]
            refine wp_goto (pc' := 92) rfl rfl ?_
            refine ih (m + 1) _ _ _ _ (by omega) (by omega) (hS.put (Or.inr (by simp))) ?_
            subst hy
            rw [up_eq, wnt, ← hz, ← e22]
            first
            | (exfalso; omega)
            | (rw [if_pos (show sBeside (w 100 11) (w 100 12) cell ((m : Int) + 1) = -1 by omega)])
            | (rw [if_neg (show ¬ sBeside (w 100 11) (w 100 12) cell ((m : Int) + 1) = -1 by omega), if_pos (show turn % 2 = 0 by omega)]
               first | (rw [if_pos (by omega)]) | (rw [if_neg (by omega)]))
            | (rw [if_neg (show ¬ sBeside (w 100 11) (w 100 12) cell ((m : Int) + 1) = -1 by omega), if_neg (show ¬ turn % 2 = 0 by omega)]
               first | (rw [if_pos (by omega)]) | (rw [if_neg (by omega)]))
          · skip
            refine wp_iconst (a := 1) (pc' := 154) rfl rfl rfl ?_
            refine wp_goto (pc' := 178) rfl rfl ?_
            refine wp_istore (pc' := 180) rfl rfl (Nat.le_of_ble_eq_true rfl) rfl ?_
            dsimp only [lset, lset2, List.set, List.getElem?_cons_zero, List.getElem?_cons_succ]
            refine wp_aload_n (pc' := 181) rfl rfl rfl (by decide) ?_
            refine wp_getR (r' := 123) (ci := 10) (k0 := 33) (pc' := 184) rfl rfl (by decide) (by first | assumption | rfl) (hT.get 121 rfl) ?_
            refine wp_iload (pc' := 186) rfl rfl rfl ?_
            refine wp_iload (pc' := 188) rfl rfl rfl ?_
            refine wp_if_eq (pc' := 191) (pt := 196) rfl rfl rfl (fun q_9 => absurd q_9 (by decide)) (fun q_9 => ?_)
            refine wp_iload (pc' := 193) rfl rfl rfl ?_
            refine wp_goto (pc' := 203) rfl rfl ?_
            refine wp_iastore (pc' := 204) rfl rfl (by first | assumption | rfl) (by omega) ?_
            refine wp_iinc (pc' := 207) rfl rfl rfl (inc_id (by omega) (by omega)) rfl ?_
            dsimp only [lset, lset2, List.set, List.getElem?_cons_zero, List.getElem?_cons_succ]
            refine wp_goto (pc' := 92) rfl rfl ?_
            refine ih (m + 1) _ _ _ _ (by omega) (by omega) (hS.put (Or.inr (by simp))) ?_
            subst hy
            rw [up_eq, wnt, ← hz, ← e22]
            first
            | (exfalso; omega)
            | (rw [if_pos (show sBeside (w 100 11) (w 100 12) cell ((m : Int) + 1) = -1 by omega)])
            | (rw [if_neg (show ¬ sBeside (w 100 11) (w 100 12) cell ((m : Int) + 1) = -1 by omega), if_pos (show turn % 2 = 0 by omega)]
               first | (rw [if_pos (by omega)]) | (rw [if_neg (by omega)]))
            | (rw [if_neg (show ¬ sBeside (w 100 11) (w 100 12) cell ((m : Int) + 1) = -1 by omega), if_neg (show ¬ turn % 2 = 0 by omega)]
               first | (rw [if_pos (by omega)]) | (rw [if_neg (by omega)]))
      · skip
        refine wp_aload_n (pc' := 110) rfl rfl rfl (by decide) ?_
        refine wp_getR (r' := 122) (ci := 10) (k0 := 32) (pc' := 113) rfl rfl (by decide) (by first | assumption | rfl) (hT.get 120 rfl) ?_
        refine wp_iload (pc' := 115) rfl rfl rfl ?_
        refine wp_iaload (pc' := 116) rfl rfl (by first | assumption | rfl) (by omega) ?_
        refine wp_goto (pc' := 132) rfl rfl ?_
        refine wp_istore (pc' := 134) rfl rfl (Nat.le_of_ble_eq_true rfl) rfl ?_
        dsimp only [lset, lset2, List.set, List.getElem?_cons_zero, List.getElem?_cons_succ]
        refine wp_iload (pc' := 136) rfl rfl rfl ?_
        refine wp_iconst (a := 2) (pc' := 137) rfl rfl rfl ?_
        refine wp_irem (pc' := 138) rfl rfl (by omega) (by first | exact iRem_pos (by omega) (by omega) (by omega) | rfl) ?_
        refine wp_if_ne (pc' := 141) (pt := 161) rfl rfl rfl (fun q_10 => ?_) (fun q_10 => ?_)
        · skip
          refine wp_iload (pc' := 163) rfl rfl rfl ?_
          refine wp_aload_n (pc' := 164) rfl rfl rfl (by decide) ?_
          refine wp_getR (r' := 123) (ci := 10) (k0 := 33) (pc' := 167) rfl rfl (by decide) (by first | assumption | rfl) (hT.get 121 rfl) ?_
          refine wp_iload (pc' := 169) rfl rfl rfl ?_
          refine wp_iaload (pc' := 170) rfl rfl (by first | assumption | rfl) (by omega) ?_
          refine wp_icmp_ge (pc' := 173) (pt := 177) rfl rfl rfl (fun q_11 => ?_) (fun q_11 => ?_)
          · skip
            refine wp_iconst (a := 0) (pc' := 178) rfl rfl rfl ?_
            refine wp_istore (pc' := 180) rfl rfl (Nat.le_of_ble_eq_true rfl) rfl ?_
            dsimp only [lset, lset2, List.set, List.getElem?_cons_zero, List.getElem?_cons_succ]
            refine wp_aload_n (pc' := 181) rfl rfl rfl (by decide) ?_
            refine wp_getR (r' := 123) (ci := 10) (k0 := 33) (pc' := 184) rfl rfl (by decide) (by first | assumption | rfl) (hT.get 121 rfl) ?_
            refine wp_iload (pc' := 186) rfl rfl rfl ?_
            refine wp_iload (pc' := 188) rfl rfl rfl ?_
            refine wp_if_eq (pc' := 191) (pt := 196) rfl rfl rfl (fun q_12 => ?_) (fun q_12 => absurd (by decide) q_12)
            refine wp_aload_n (pc' := 197) rfl rfl rfl (by decide) ?_
            refine wp_getR (r' := 123) (ci := 10) (k0 := 33) (pc' := 200) rfl rfl (by decide) (by first | assumption | rfl) (hT.get 121 rfl) ?_
            refine wp_iload (pc' := 202) rfl rfl rfl ?_
            refine wp_iaload (pc' := 203) rfl rfl (by first | assumption | rfl) (by omega) ?_
            refine wp_iastore (pc' := 204) rfl rfl (by first | assumption | rfl) (by omega) ?_
            refine wp_iinc (pc' := 207) rfl rfl rfl (inc_id (by omega) (by omega)) rfl ?_
            dsimp only [lset, lset2, List.set, List.getElem?_cons_zero, List.getElem?_cons_succ]
            refine wp_goto (pc' := 92) rfl rfl ?_
            refine ih (m + 1) _ _ _ _ (by omega) (by omega) (hS.put (Or.inr (by simp))) ?_
            subst hy
            rw [up_eq, wnt, ← hz, ← e22]
            first
            | (exfalso; omega)
            | (rw [if_pos (show sBeside (w 100 11) (w 100 12) cell ((m : Int) + 1) = -1 by omega)])
            | (rw [if_neg (show ¬ sBeside (w 100 11) (w 100 12) cell ((m : Int) + 1) = -1 by omega), if_pos (show turn % 2 = 0 by omega)]
               first | (rw [if_pos (by omega)]) | (rw [if_neg (by omega)]))
            | (rw [if_neg (show ¬ sBeside (w 100 11) (w 100 12) cell ((m : Int) + 1) = -1 by omega), if_neg (show ¬ turn % 2 = 0 by omega)]
               first | (rw [if_pos (by omega)]) | (rw [if_neg (by omega)]))
          · skip
            refine wp_iconst (a := 1) (pc' := 174) rfl rfl rfl ?_
            refine wp_goto (pc' := 178) rfl rfl ?_
            refine wp_istore (pc' := 180) rfl rfl (Nat.le_of_ble_eq_true rfl) rfl ?_
            dsimp only [lset, lset2, List.set, List.getElem?_cons_zero, List.getElem?_cons_succ]
            refine wp_aload_n (pc' := 181) rfl rfl rfl (by decide) ?_
            refine wp_getR (r' := 123) (ci := 10) (k0 := 33) (pc' := 184) rfl rfl (by decide) (by first | assumption | rfl) (hT.get 121 rfl) ?_
            refine wp_iload (pc' := 186) rfl rfl rfl ?_
            refine wp_iload (pc' := 188) rfl rfl rfl ?_
            refine wp_if_eq (pc' := 191) (pt := 196) rfl rfl rfl (fun q_13 => absurd q_13 (by decide)) (fun q_13 => ?_)
            refine wp_iload (pc' := 193) rfl rfl rfl ?_
            refine wp_goto (pc' := 203) rfl rfl ?_
            refine wp_iastore (pc' := 204) rfl rfl (by first | assumption | rfl) (by omega) ?_
            refine wp_iinc (pc' := 207) rfl rfl rfl (inc_id (by omega) (by omega)) rfl ?_
            dsimp only [lset, lset2, List.set, List.getElem?_cons_zero, List.getElem?_cons_succ]
            refine wp_goto (pc' := 92) rfl rfl ?_
            refine ih (m + 1) _ _ _ _ (by omega) (by omega) (hS.put (Or.inr (by simp))) ?_
            subst hy
            rw [up_eq, wnt, ← hz, ← e22]
            first
            | (exfalso; omega)
            | (rw [if_pos (show sBeside (w 100 11) (w 100 12) cell ((m : Int) + 1) = -1 by omega)])
            | (rw [if_neg (show ¬ sBeside (w 100 11) (w 100 12) cell ((m : Int) + 1) = -1 by omega), if_pos (show turn % 2 = 0 by omega)]
               first | (rw [if_pos (by omega)]) | (rw [if_neg (by omega)]))
            | (rw [if_neg (show ¬ sBeside (w 100 11) (w 100 12) cell ((m : Int) + 1) = -1 by omega), if_neg (show ¬ turn % 2 = 0 by omega)]
               first | (rw [if_pos (by omega)]) | (rw [if_neg (by omega)]))
        · skip
          refine wp_iload (pc' := 143) rfl rfl rfl ?_
          refine wp_aload_n (pc' := 144) rfl rfl rfl (by decide) ?_
          refine wp_getR (r' := 123) (ci := 10) (k0 := 33) (pc' := 147) rfl rfl (by decide) (by first | assumption | rfl) (hT.get 121 rfl) ?_
          refine wp_iload (pc' := 149) rfl rfl rfl ?_
          refine wp_iaload (pc' := 150) rfl rfl (by first | assumption | rfl) (by omega) ?_
          refine wp_icmp_le (pc' := 153) (pt := 157) rfl rfl rfl (fun q_14 => ?_) (fun q_14 => ?_)
          · skip
            refine wp_iconst (a := 0) (pc' := 158) rfl rfl rfl ?_
            refine wp_goto (pc' := 178) rfl rfl ?_
            refine wp_istore (pc' := 180) rfl rfl (Nat.le_of_ble_eq_true rfl) rfl ?_
            dsimp only [lset, lset2, List.set, List.getElem?_cons_zero, List.getElem?_cons_succ]
            refine wp_aload_n (pc' := 181) rfl rfl rfl (by decide) ?_
            refine wp_getR (r' := 123) (ci := 10) (k0 := 33) (pc' := 184) rfl rfl (by decide) (by first | assumption | rfl) (hT.get 121 rfl) ?_
            refine wp_iload (pc' := 186) rfl rfl rfl ?_
            refine wp_iload (pc' := 188) rfl rfl rfl ?_
            refine wp_if_eq (pc' := 191) (pt := 196) rfl rfl rfl (fun q_15 => ?_) (fun q_15 => absurd (by decide) q_15)
            refine wp_aload_n (pc' := 197) rfl rfl rfl (by decide) ?_
            refine wp_getR (r' := 123) (ci := 10) (k0 := 33) (pc' := 200) rfl rfl (by decide) (by first | assumption | rfl) (hT.get 121 rfl) ?_
            refine wp_iload (pc' := 202) rfl rfl rfl ?_
            refine wp_iaload (pc' := 203) rfl rfl (by first | assumption | rfl) (by omega) ?_
            refine wp_iastore (pc' := 204) rfl rfl (by first | assumption | rfl) (by omega) ?_
            refine wp_iinc (pc' := 207) rfl rfl rfl (inc_id (by omega) (by omega)) rfl ?_
            dsimp only [lset, lset2, List.set, List.getElem?_cons_zero, List.getElem?_cons_succ]
            refine wp_goto (pc' := 92) rfl rfl ?_
            refine ih (m + 1) _ _ _ _ (by omega) (by omega) (hS.put (Or.inr (by simp))) ?_
            subst hy
            rw [up_eq, wnt, ← hz, ← e22]
            first
            | (exfalso; omega)
            | (rw [if_pos (show sBeside (w 100 11) (w 100 12) cell ((m : Int) + 1) = -1 by omega)])
            | (rw [if_neg (show ¬ sBeside (w 100 11) (w 100 12) cell ((m : Int) + 1) = -1 by omega), if_pos (show turn % 2 = 0 by omega)]
               first | (rw [if_pos (by omega)]) | (rw [if_neg (by omega)]))
            | (rw [if_neg (show ¬ sBeside (w 100 11) (w 100 12) cell ((m : Int) + 1) = -1 by omega), if_neg (show ¬ turn % 2 = 0 by omega)]
               first | (rw [if_pos (by omega)]) | (rw [if_neg (by omega)]))
          · skip
            refine wp_iconst (a := 1) (pc' := 154) rfl rfl rfl ?_
            refine wp_goto (pc' := 178) rfl rfl ?_
            refine wp_istore (pc' := 180) rfl rfl (Nat.le_of_ble_eq_true rfl) rfl ?_
            dsimp only [lset, lset2, List.set, List.getElem?_cons_zero, List.getElem?_cons_succ]
            refine wp_aload_n (pc' := 181) rfl rfl rfl (by decide) ?_
            refine wp_getR (r' := 123) (ci := 10) (k0 := 33) (pc' := 184) rfl rfl (by decide) (by first | assumption | rfl) (hT.get 121 rfl) ?_
            refine wp_iload (pc' := 186) rfl rfl rfl ?_
            refine wp_iload (pc' := 188) rfl rfl rfl ?_
            refine wp_if_eq (pc' := 191) (pt := 196) rfl rfl rfl (fun q_16 => absurd q_16 (by decide)) (fun q_16 => ?_)
            refine wp_iload (pc' := 193) rfl rfl rfl ?_
            refine wp_goto (pc' := 203) rfl rfl ?_
            refine wp_iastore (pc' := 204) rfl rfl (by first | assumption | rfl) (by omega) ?_
            refine wp_iinc (pc' := 207) rfl rfl rfl (inc_id (by omega) (by omega)) rfl ?_
            dsimp only [lset, lset2, List.set, List.getElem?_cons_zero, List.getElem?_cons_succ]
            refine wp_goto (pc' := 92) rfl rfl ?_
            refine ih (m + 1) _ _ _ _ (by omega) (by omega) (hS.put (Or.inr (by simp))) ?_
            subst hy
            rw [up_eq, wnt, ← hz, ← e22]
            first
            | (exfalso; omega)
            | (rw [if_pos (show sBeside (w 100 11) (w 100 12) cell ((m : Int) + 1) = -1 by omega)])
            | (rw [if_neg (show ¬ sBeside (w 100 11) (w 100 12) cell ((m : Int) + 1) = -1 by omega), if_pos (show turn % 2 = 0 by omega)]
               first | (rw [if_pos (by omega)]) | (rw [if_neg (by omega)]))
            | (rw [if_neg (show ¬ sBeside (w 100 11) (w 100 12) cell ((m : Int) + 1) = -1 by omega), if_neg (show ¬ turn % 2 = 0 by omega)]
               first | (rw [if_pos (by omega)]) | (rw [if_neg (by omega)]))
