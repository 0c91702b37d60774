/-! mark -/
def fSil (c l : Int) (K H : Int → Int) (cell back i : Int) : Int → Int := fun j => if j ≠ i ∧ fVote c l K H cell back j = -9 then 1 else 0
def fGc (c k h : Int) : Int → Int := fun cell => if 0 < sG c k h cell then 1 else 0
theorem sum01 {f : Int → Int} {n : Int} (h0 : 0 ≤ n) (h : ∀ j : Int, f j = 0 ∨ f j = 1) : 0 ≤ sumI f n ∧ sumI f n ≤ n := by
  have := @sumI_bd f 0 1 n h0 (fun j _ _ => by rcases h j with z | z <;> omega)
  omega
theorem fSil01 (c l : Int) (K H : Int → Int) (cell back i : Int) (j : Int) : fSil c l K H cell back i j = 0 ∨ fSil c l K H cell back i j = 1 := by
  unfold fSil
  split <;> simp
theorem fGc01 (c k h : Int) (j : Int) : fGc c k h j = 0 ∨ fGc c k h j = 1 := by
  unfold fGc
  split <;> simp
set_option maxRecDepth 20000 in
set_option maxHeartbeats 4000000 in
theorem l_abst {w : Hp} {d : Nat} {i0 : Int} (hT : Stc w) (hr : ROw w) (hp : Pre w) : ∀ (k : Nat) (i s : Int), 0 ≤ i → i + k = w 3 2 → s = sumI (fSil (w 3 0) (w 3 1) (w 4) (w 5) (w 3 3) (w 3 4) i0) i → WP SH (d + 5) 132 4 [some (vR 0), some (vI i0), some (vI s), some (vI i)] [] w (fun v w' => v = some (vI (sumI (fSil (w 3 0) (w 3 1) (w 4) (w 5) (w 3 3) (w 3 4) i0) (w 3 2))) ∧ w' = w) := by
  intro k
  induction k with
  | zero =>
    intro i s h0 hik hs
    have hnn := hp.1.2.1
    have hbd := sum01 (n := i) (f := (fSil (w 3 0) (w 3 1) (w 4) (w 5) (w 3 3) (w 3 4) i0)) h0 (fSil01 _ _ _ _ _ _ _)
    rw [← hs] at hbd
    refine wp_iload_n (pc' := 5) rfl rfl rfl ?_
    refine wp_aload_n (pc' := 6) rfl rfl rfl (by decide) ?_
    refine wp_getR (r' := 3) (ci := 9) (k0 := 2) (pc' := 9) rfl rfl (by decide) (by first | assumption | rfl) (hT.get 2 rfl) ?_
    refine wp_getI (ci := 3) (k0 := 2) (pc' := 12) rfl rfl (by decide) (by first | assumption | rfl) ?_
    refine wp_icmp_ge (pc' := 15) (pt := 40) rfl rfl rfl (fun q_1 => ?_) (fun q_1 => ?_)
    · skip
      refine wp_iload_n (pc' := 41) rfl rfl rfl ?_
      refine wp_ret rfl rfl rfl ?_
      obtain rfl : i = w 3 2 := by omega
      exact ⟨by rw [hs], rfl⟩
    · skip
      exfalso; omega
  | succ k ih =>
    intro i s h0 hik hs
    have hnn := hp.1.2.1
    have hbd := sum01 (n := i) (f := (fSil (w 3 0) (w 3 1) (w 4) (w 5) (w 3 3) (w 3 4) i0)) h0 (fSil01 _ _ _ _ _ _ _)
    rw [← hs] at hbd
    refine wp_iload_n (pc' := 5) rfl rfl rfl ?_
    refine wp_aload_n (pc' := 6) rfl rfl rfl (by decide) ?_
    refine wp_getR (r' := 3) (ci := 9) (k0 := 2) (pc' := 9) rfl rfl (by decide) (by first | assumption | rfl) (hT.get 2 rfl) ?_
    refine wp_getI (ci := 3) (k0 := 2) (pc' := 12) rfl rfl (by decide) (by first | assumption | rfl) ?_
    refine wp_icmp_ge (pc' := 15) (pt := 40) rfl rfl rfl (fun q_1 => ?_) (fun q_1 => ?_)
    · skip
      exfalso; omega
    · skip
      refine wp_iload_n (pc' := 16) rfl rfl rfl ?_
      refine wp_iload_n (pc' := 17) rfl rfl rfl ?_
      refine wp_icmp_eq (pc' := 20) (pt := 34) rfl rfl rfl (fun q_2 => ?_) (fun q_2 => ?_)
      · skip
        refine wp_iinc (pc' := 37) rfl rfl rfl (inc_id (by omega) (by omega)) rfl ?_
        dsimp only [lset, lset2, List.set, List.getElem?_cons_zero, List.getElem?_cons_succ]
        refine wp_goto (pc' := 4) rfl rfl ?_
        exact ih (i + 1) _ (by omega) (by omega) (by rw [sumI_s _ h0, ← hs]; unfold fSil fVote; (try dsimp only); (repeat' split) <;> first | rfl | omega | (exfalso; omega))
      · skip
        refine wp_aload_n (pc' := 21) rfl rfl rfl (by decide) ?_
        refine wp_iload_n (pc' := 22) rfl rfl rfl ?_
        refine wp_iconst (a := 4) (pc' := 23) rfl rfl rfl ?_
        refine wp_call (pc' := 26) rfl rfl rfl rfl rfl ⟨Nat.le_of_ble_eq_true rfl, Nat.le_of_ble_eq_true rfl, Nat.le_of_ble_eq_true rfl, Nat.le_of_ble_eq_true rfl, Nat.le_of_ble_eq_true rfl⟩ rfl (c_VH_aboutOne hT hr hp (by omega)) ?_
        intro v1 w9 hq1
        rw [hq1.1, hq1.2]
        clear hq1 v1 w9
        simp only [show ((4 : Int) = 0) = False from by simp, show ((4 : Int) = 1) = False from by simp, show ((4 : Int) = 2) = False from by simp, show ((4 : Int) = 3) = False from by simp, if_false]
        dsimp only [Option.toList, List.cons_append, List.nil_append, List.append_nil]
        refine wp_bipush (a := -9) (pc' := 28) rfl rfl rfl ?_
        refine wp_icmp_ne (pc' := 31) (pt := 34) rfl rfl rfl (fun q_3 => ?_) (fun q_3 => ?_)
        · skip
          refine wp_iinc (pc' := 37) rfl rfl rfl (inc_id (by omega) (by omega)) rfl ?_
          dsimp only [lset, lset2, List.set, List.getElem?_cons_zero, List.getElem?_cons_succ]
          refine wp_goto (pc' := 4) rfl rfl ?_
          exact ih (i + 1) _ (by omega) (by omega) (by rw [sumI_s _ h0, ← hs]; unfold fSil fVote; (try dsimp only); (repeat' split) <;> first | rfl | omega | (exfalso; omega))
        · skip
          refine wp_iinc (pc' := 34) rfl rfl rfl (inc_id (by omega) (by omega)) rfl ?_
          dsimp only [lset, lset2, List.set, List.getElem?_cons_zero, List.getElem?_cons_succ]
          refine wp_iinc (pc' := 37) rfl rfl rfl (inc_id (by omega) (by omega)) rfl ?_
          dsimp only [lset, lset2, List.set, List.getElem?_cons_zero, List.getElem?_cons_succ]
          refine wp_goto (pc' := 4) rfl rfl ?_
          exact ih (i + 1) _ (by omega) (by omega) (by rw [sumI_s _ h0, ← hs]; unfold fSil fVote; (try dsimp only); (repeat' split) <;> first | rfl | omega | (exfalso; omega))
set_option maxRecDepth 20000 in
set_option maxHeartbeats 4000000 in
theorem c_VH_abst {w : Hp} {d : Nat} {i0 : Int} (hT : Stc w) (hr : ROw w) (hp : Pre w) : WP SH (d + 5) 132 0 [some (vR 0), some (vI i0), none, none] [] w (fun v w' => v = some (vI (sumI (fSil (w 3 0) (w 3 1) (w 4) (w 5) (w 3 3) (w 3 4) i0) (w 3 2))) ∧ w' = w) := by
  refine wp_iconst (a := 0) (pc' := 1) rfl rfl rfl ?_
  refine wp_istore_n (pc' := 2) rfl rfl (Nat.le_of_ble_eq_true rfl) rfl ?_
  dsimp only [lset, lset2, List.set, List.getElem?_cons_zero, List.getElem?_cons_succ]
  refine wp_iconst (a := 0) (pc' := 3) rfl rfl rfl ?_
  refine wp_istore_n (pc' := 4) rfl rfl (Nat.le_of_ble_eq_true rfl) rfl ?_
  dsimp only [lset, lset2, List.set, List.getElem?_cons_zero, List.getElem?_cons_succ]
  have hnn := hp.1.2.1
  exact l_abst hT hr hp (w 3 2).toNat 0 0 (by decide) (by omega) rfl
set_option maxRecDepth 20000 in
set_option maxHeartbeats 4000000 in
theorem l_silent {w : Hp} {d : Nat} {i0 : Int} (hT : Stc w) (hp : MdOK w) (hx : Cel (w 100 11) (w 100 12) (w 109 0)) : ∀ (k : Nat) (i s : Int), 0 ≤ i → i + k = w 100 10 → s = sumI (fSil (w 100 11) (w 100 12) (w 107) (fun i => w 109 (3 + i)) (w 109 0) (w 109 1) i0) i → WP SH (d + 5) 186 4 [some (vR 100), some (vI i0), some (vI s), some (vI i)] [] w (fun v w' => v = some (vI (sumI (fSil (w 100 11) (w 100 12) (w 107) (fun i => w 109 (3 + i)) (w 109 0) (w 109 1) i0) (w 100 10))) ∧ w' = w) := by
  intro k
  induction k with
  | zero =>
    intro i s h0 hik hs
    have hnn := hp.2.1
    have hbd := sum01 (n := i) (f := (fSil (w 100 11) (w 100 12) (w 107) (fun i => w 109 (3 + i)) (w 109 0) (w 109 1) i0)) h0 (fSil01 _ _ _ _ _ _ _)
    rw [← hs] at hbd
    refine wp_iload_n (pc' := 5) rfl rfl rfl ?_
    refine wp_aload_n (pc' := 6) rfl rfl rfl (by decide) ?_
    refine wp_getI (ci := 10) (k0 := 10) (pc' := 9) rfl rfl (by decide) (by first | assumption | rfl) ?_
    refine wp_icmp_ge (pc' := 12) (pt := 53) rfl rfl rfl (fun q_1 => ?_) (fun q_1 => ?_)
    · skip
      refine wp_iload_n (pc' := 54) rfl rfl rfl ?_
      refine wp_ret rfl rfl rfl ?_
      obtain rfl : i = w 100 10 := by omega
      exact ⟨by rw [hs], rfl⟩
    · skip
      exfalso; omega
  | succ k ih =>
    intro i s h0 hik hs
    have hnn := hp.2.1
    have hbd := sum01 (n := i) (f := (fSil (w 100 11) (w 100 12) (w 107) (fun i => w 109 (3 + i)) (w 109 0) (w 109 1) i0)) h0 (fSil01 _ _ _ _ _ _ _)
    rw [← hs] at hbd
    refine wp_iload_n (pc' := 5) rfl rfl rfl ?_
    refine wp_aload_n (pc' := 6) rfl rfl rfl (by decide) ?_
    refine wp_getI (ci := 10) (k0 := 10) (pc' := 9) rfl rfl (by decide) (by first | assumption | rfl) ?_
    refine wp_icmp_ge (pc' := 12) (pt := 53) rfl rfl rfl (fun q_1 => ?_) (fun q_1 => ?_)
    · skip
      exfalso; omega
    · skip
      refine wp_iload_n (pc' := 13) rfl rfl rfl ?_
      refine wp_iload_n (pc' := 14) rfl rfl rfl ?_
      refine wp_iload_n (pc' := 15) rfl rfl rfl ?_
      refine wp_icmp_eq (pc' := 18) (pt := 44) rfl rfl rfl (fun q_2 => ?_) (fun q_2 => ?_)
      · skip
        refine wp_iconst (a := 0) (pc' := 45) rfl rfl rfl ?_
        refine wp_iadd (pc' := 46) rfl rfl (by first | exact w32_id (by omega) (by omega) | rfl) ?_
        refine wp_istore_n (pc' := 47) rfl rfl (Nat.le_of_ble_eq_true rfl) rfl ?_
        dsimp only [lset, lset2, List.set, List.getElem?_cons_zero, List.getElem?_cons_succ]
        refine wp_iinc (pc' := 50) rfl rfl rfl (inc_id (by omega) (by omega)) rfl ?_
        dsimp only [lset, lset2, List.set, List.getElem?_cons_zero, List.getElem?_cons_succ]
        refine wp_goto (pc' := 4) rfl rfl ?_
        exact ih (i + 1) _ (by omega) (by omega) (by rw [sumI_s _ h0, ← hs]; unfold fSil fVote; (try dsimp only); (repeat' split) <;> first | rfl | omega | (exfalso; omega))
      · skip
        refine wp_aload_n (pc' := 19) rfl rfl rfl (by decide) ?_
        refine wp_iload_n (pc' := 20) rfl rfl rfl ?_
        refine wp_aload_n (pc' := 21) rfl rfl rfl (by decide) ?_
        refine wp_getR (r' := 109) (ci := 10) (k0 := 15) (pc' := 24) rfl rfl (by decide) (by first | assumption | rfl) (hT.get 107 rfl) ?_
        refine wp_iconst (a := 0) (pc' := 25) rfl rfl rfl ?_
        refine wp_iaload (pc' := 26) rfl rfl (by first | assumption | rfl) (by omega) ?_
        refine wp_aload_n (pc' := 27) rfl rfl rfl (by decide) ?_
        refine wp_getR (r' := 109) (ci := 10) (k0 := 15) (pc' := 30) rfl rfl (by decide) (by first | assumption | rfl) (hT.get 107 rfl) ?_
        refine wp_iconst (a := 1) (pc' := 31) rfl rfl rfl ?_
        refine wp_iaload (pc' := 32) rfl rfl (by first | assumption | rfl) (by omega) ?_
        refine wp_call (pc' := 35) rfl rfl rfl rfl rfl ⟨Nat.le_of_ble_eq_true rfl, Nat.le_of_ble_eq_true rfl, Nat.le_of_ble_eq_true rfl, Nat.le_of_ble_eq_true rfl, Nat.le_of_ble_eq_true rfl⟩ rfl (c_Mod_voteOn hp.1 hT (by omega) hx (hp.2.2 i (by omega) (by omega)).2.1) ?_
        intro v1 w9 hq1
        rw [hq1.1, hq1.2]
        clear hq1 v1 w9
        dsimp only [Option.toList, List.cons_append, List.nil_append, List.append_nil]
        refine wp_bipush (a := -9) (pc' := 37) rfl rfl rfl ?_
        refine wp_icmp_ne (pc' := 40) (pt := 44) rfl rfl rfl (fun q_3 => ?_) (fun q_3 => ?_)
        · skip
          refine wp_iconst (a := 0) (pc' := 45) rfl rfl rfl ?_
          refine wp_iadd (pc' := 46) rfl rfl (by first | exact w32_id (by omega) (by omega) | rfl) ?_
          refine wp_istore_n (pc' := 47) rfl rfl (Nat.le_of_ble_eq_true rfl) rfl ?_
          dsimp only [lset, lset2, List.set, List.getElem?_cons_zero, List.getElem?_cons_succ]
          refine wp_iinc (pc' := 50) rfl rfl rfl (inc_id (by omega) (by omega)) rfl ?_
          dsimp only [lset, lset2, List.set, List.getElem?_cons_zero, List.getElem?_cons_succ]
          refine wp_goto (pc' := 4) rfl rfl ?_
          exact ih (i + 1) _ (by omega) (by omega) (by rw [sumI_s _ h0, ← hs]; unfold fSil fVote; (try dsimp only); (repeat' split) <;> first | rfl | omega | (exfalso; omega))
        · skip
          refine wp_iconst (a := 1) (pc' := 41) rfl rfl rfl ?_
          refine wp_goto (pc' := 45) rfl rfl ?_
          refine wp_iadd (pc' := 46) rfl rfl (by first | exact w32_id (by omega) (by omega) | rfl) ?_
          refine wp_istore_n (pc' := 47) rfl rfl (Nat.le_of_ble_eq_true rfl) rfl ?_
          dsimp only [lset, lset2, List.set, List.getElem?_cons_zero, List.getElem?_cons_succ]
          refine wp_iinc (pc' := 50) rfl rfl rfl (inc_id (by omega) (by omega)) rfl ?_
          dsimp only [lset, lset2, List.set, List.getElem?_cons_zero, List.getElem?_cons_succ]
          refine wp_goto (pc' := 4) rfl rfl ?_
          exact ih (i + 1) _ (by omega) (by omega) (by rw [sumI_s _ h0, ← hs]; unfold fSil fVote; (try dsimp only); (repeat' split) <;> first | rfl | omega | (exfalso; omega))
set_option maxRecDepth 20000 in
set_option maxHeartbeats 4000000 in
theorem c_Mod_silent {w : Hp} {d : Nat} {i0 : Int} (hT : Stc w) (hp : MdOK w) (hx : Cel (w 100 11) (w 100 12) (w 109 0)) : WP SH (d + 5) 186 0 [some (vR 100), some (vI i0), none, none] [] w (fun v w' => v = some (vI (sumI (fSil (w 100 11) (w 100 12) (w 107) (fun i => w 109 (3 + i)) (w 109 0) (w 109 1) i0) (w 100 10))) ∧ w' = w) := by
  refine wp_iconst (a := 0) (pc' := 1) rfl rfl rfl ?_
  refine wp_istore_n (pc' := 2) rfl rfl (Nat.le_of_ble_eq_true rfl) rfl ?_
  dsimp only [lset, lset2, List.set, List.getElem?_cons_zero, List.getElem?_cons_succ]
  refine wp_iconst (a := 0) (pc' := 3) rfl rfl rfl ?_
  refine wp_istore_n (pc' := 4) rfl rfl (Nat.le_of_ble_eq_true rfl) rfl ?_
  dsimp only [lset, lset2, List.set, List.getElem?_cons_zero, List.getElem?_cons_succ]
  have hnn := hp.2.1
  exact l_silent hT hp hx (w 100 10).toNat 0 0 (by decide) (by omega) rfl
set_option maxRecDepth 20000 in
set_option maxHeartbeats 4000000 in
theorem l_gainful {w : Hp} {d : Nat} {i0 : Int} (hT : Stc w) (hp : LnOK w) (hi : 0 ≤ i0 ∧ i0 < w 3 2) : ∀ (k : Nat) (i s : Int), 0 ≤ i → i + k = w 3 0 * w 3 1 → s = sumI (fGc (w 3 0) (w 4 i0) (w 5 i0)) i → WP SH (d + 2) 39 4 [some (vR 3), some (vI i0), some (vI s), some (vI i)] [] w (fun v w' => v = some (vI (sumI (fGc (w 3 0) (w 4 i0) (w 5 i0)) (w 3 0 * w 3 1))) ∧ w' = w) := by
  intro k
  induction k with
  | zero =>
    intro i s h0 hik hs
    have hml := hp.1.mul
    have hnn := hp.2.1
    have hbd := sum01 (n := i) (f := (fGc (w 3 0) (w 4 i0) (w 5 i0))) h0 (fGc01 _ _ _)
    rw [← hs] at hbd
    refine wp_iload_n (pc' := 5) rfl rfl rfl ?_
    refine wp_aload_n (pc' := 6) rfl rfl rfl (by decide) ?_
    refine wp_call (pc' := 9) rfl rfl rfl rfl rfl ⟨Nat.le_of_ble_eq_true rfl, Nat.le_of_ble_eq_true rfl, Nat.le_of_ble_eq_true rfl, Nat.le_of_ble_eq_true rfl, Nat.le_of_ble_eq_true rfl⟩ rfl (c_Land_cells (by omega)) ?_
    intro v1 w9 hq1
    rw [hq1.1, hq1.2]
    clear hq1 v1 w9
    dsimp only [Option.toList, List.cons_append, List.nil_append, List.append_nil]
    refine wp_icmp_ge (pc' := 12) (pt := 35) rfl rfl rfl (fun q_1 => ?_) (fun q_1 => ?_)
    · skip
      refine wp_iload_n (pc' := 36) rfl rfl rfl ?_
      refine wp_ret rfl rfl rfl ?_
      obtain rfl : i = w 3 0 * w 3 1 := by omega
      exact ⟨by rw [hs], rfl⟩
    · skip
      exfalso; omega
  | succ k ih =>
    intro i s h0 hik hs
    have hml := hp.1.mul
    have hnn := hp.2.1
    have hbd := sum01 (n := i) (f := (fGc (w 3 0) (w 4 i0) (w 5 i0))) h0 (fGc01 _ _ _)
    rw [← hs] at hbd
    refine wp_iload_n (pc' := 5) rfl rfl rfl ?_
    refine wp_aload_n (pc' := 6) rfl rfl rfl (by decide) ?_
    refine wp_call (pc' := 9) rfl rfl rfl rfl rfl ⟨Nat.le_of_ble_eq_true rfl, Nat.le_of_ble_eq_true rfl, Nat.le_of_ble_eq_true rfl, Nat.le_of_ble_eq_true rfl, Nat.le_of_ble_eq_true rfl⟩ rfl (c_Land_cells (by omega)) ?_
    intro v1 w9 hq1
    rw [hq1.1, hq1.2]
    clear hq1 v1 w9
    dsimp only [Option.toList, List.cons_append, List.nil_append, List.append_nil]
    refine wp_icmp_ge (pc' := 12) (pt := 35) rfl rfl rfl (fun q_1 => ?_) (fun q_1 => ?_)
    · skip
      exfalso; omega
    · skip
      refine wp_iload_n (pc' := 13) rfl rfl rfl ?_
      refine wp_aload_n (pc' := 14) rfl rfl rfl (by decide) ?_
      refine wp_iload_n (pc' := 15) rfl rfl rfl ?_
      refine wp_iload_n (pc' := 16) rfl rfl rfl ?_
      refine wp_call (pc' := 19) rfl rfl rfl rfl rfl ⟨Nat.le_of_ble_eq_true rfl, Nat.le_of_ble_eq_true rfl, Nat.le_of_ble_eq_true rfl, Nat.le_of_ble_eq_true rfl, Nat.le_of_ble_eq_true rfl⟩ rfl (c_Land_gains hp.1 (by omega) hT ⟨h0, by omega⟩ (hp.2.2 i0 (by omega) (by omega)).2.1) ?_
      intro v1 w9 hq1
      rw [hq1.1, hq1.2]
      clear hq1 v1 w9
      dsimp only [Option.toList, List.cons_append, List.nil_append, List.append_nil]
      refine wp_if_le (pc' := 22) (pt := 26) rfl rfl rfl (fun q_2 => ?_) (fun q_2 => ?_)
      · skip
        refine wp_iconst (a := 0) (pc' := 27) rfl rfl rfl ?_
        refine wp_iadd (pc' := 28) rfl rfl (by first | exact w32_id (by omega) (by omega) | rfl) ?_
        refine wp_istore_n (pc' := 29) rfl rfl (Nat.le_of_ble_eq_true rfl) rfl ?_
        dsimp only [lset, lset2, List.set, List.getElem?_cons_zero, List.getElem?_cons_succ]
        refine wp_iinc (pc' := 32) rfl rfl rfl (inc_id (by omega) (by omega)) rfl ?_
        dsimp only [lset, lset2, List.set, List.getElem?_cons_zero, List.getElem?_cons_succ]
        refine wp_goto (pc' := 4) rfl rfl ?_
        exact ih (i + 1) _ (by omega) (by omega) (by rw [sumI_s _ h0, ← hs]; unfold fGc; (repeat' split) <;> first | rfl | omega | (exfalso; omega))
      · skip
        refine wp_iconst (a := 1) (pc' := 23) rfl rfl rfl ?_
        refine wp_goto (pc' := 27) rfl rfl ?_
        refine wp_iadd (pc' := 28) rfl rfl (by first | exact w32_id (by omega) (by omega) | rfl) ?_
        refine wp_istore_n (pc' := 29) rfl rfl (Nat.le_of_ble_eq_true rfl) rfl ?_
        dsimp only [lset, lset2, List.set, List.getElem?_cons_zero, List.getElem?_cons_succ]
        refine wp_iinc (pc' := 32) rfl rfl rfl (inc_id (by omega) (by omega)) rfl ?_
        dsimp only [lset, lset2, List.set, List.getElem?_cons_zero, List.getElem?_cons_succ]
        refine wp_goto (pc' := 4) rfl rfl ?_
        exact ih (i + 1) _ (by omega) (by omega) (by rw [sumI_s _ h0, ← hs]; unfold fGc; (repeat' split) <;> first | rfl | omega | (exfalso; omega))
set_option maxRecDepth 20000 in
set_option maxHeartbeats 4000000 in
theorem c_Land_gainful {w : Hp} {d : Nat} {i0 : Int} (hT : Stc w) (hp : LnOK w) (hi : 0 ≤ i0 ∧ i0 < w 3 2) : WP SH (d + 2) 39 0 [some (vR 3), some (vI i0), none, none] [] w (fun v w' => v = some (vI (sumI (fGc (w 3 0) (w 4 i0) (w 5 i0)) (w 3 0 * w 3 1))) ∧ w' = w) := by
  refine wp_iconst (a := 0) (pc' := 1) rfl rfl rfl ?_
  refine wp_istore_n (pc' := 2) rfl rfl (Nat.le_of_ble_eq_true rfl) rfl ?_
  dsimp only [lset, lset2, List.set, List.getElem?_cons_zero, List.getElem?_cons_succ]
  refine wp_iconst (a := 0) (pc' := 3) rfl rfl rfl ?_
  refine wp_istore_n (pc' := 4) rfl rfl (Nat.le_of_ble_eq_true rfl) rfl ?_
  dsimp only [lset, lset2, List.set, List.getElem?_cons_zero, List.getElem?_cons_succ]
  have hml := hp.1.mul
  exact l_gainful hT hp hi (w 3 0 * w 3 1).toNat 0 0 (by decide) (by omega) rfl
set_option maxRecDepth 20000 in
set_option maxHeartbeats 4000000 in
theorem l_cellsOf {w : Hp} {d : Nat} {i0 : Int} (hT : Stc w) (hp : MdOK w) (hi : 0 ≤ i0 ∧ i0 < w 100 10) : ∀ (k : Nat) (i s : Int), 0 ≤ i → i + k = w 100 11 * w 100 12 → s = sumI (fGc (w 100 11) (w 107 i0) (w 109 (3 + i0))) i → WP SH (d + 4) 187 4 [some (vR 100), some (vI i0), some (vI s), some (vI i)] [] w (fun v w' => v = some (vI (sumI (fGc (w 100 11) (w 107 i0) (w 109 (3 + i0))) (w 100 11 * w 100 12))) ∧ w' = w) := by
  intro k
  induction k with
  | zero =>
    intro i s h0 hik hs
    have hml := hp.1.mul
    have hnn := hp.2.1
    have hbd := sum01 (n := i) (f := (fGc (w 100 11) (w 107 i0) (w 109 (3 + i0)))) h0 (fGc01 _ _ _)
    rw [← hs] at hbd
    refine wp_iload_n (pc' := 5) rfl rfl rfl ?_
    refine wp_aload_n (pc' := 6) rfl rfl rfl (by decide) ?_
    refine wp_getI (ci := 10) (k0 := 11) (pc' := 9) rfl rfl (by decide) (by first | assumption | rfl) ?_
    refine wp_aload_n (pc' := 10) rfl rfl rfl (by decide) ?_
    refine wp_getI (ci := 10) (k0 := 12) (pc' := 13) rfl rfl (by decide) (by first | assumption | rfl) ?_
    refine wp_imul (pc' := 14) rfl rfl (by first | exact w32_id (by omega) (by omega) | rfl) ?_
    refine wp_icmp_ge (pc' := 17) (pt := 40) rfl rfl rfl (fun q_1 => ?_) (fun q_1 => ?_)
    · skip
      refine wp_iload_n (pc' := 41) rfl rfl rfl ?_
      refine wp_ret rfl rfl rfl ?_
      obtain rfl : i = w 100 11 * w 100 12 := by omega
      exact ⟨by rw [hs], rfl⟩
    · skip
      exfalso; omega
  | succ k ih =>
    intro i s h0 hik hs
    have hml := hp.1.mul
    have hnn := hp.2.1
    have hbd := sum01 (n := i) (f := (fGc (w 100 11) (w 107 i0) (w 109 (3 + i0)))) h0 (fGc01 _ _ _)
    rw [← hs] at hbd
    refine wp_iload_n (pc' := 5) rfl rfl rfl ?_
    refine wp_aload_n (pc' := 6) rfl rfl rfl (by decide) ?_
    refine wp_getI (ci := 10) (k0 := 11) (pc' := 9) rfl rfl (by decide) (by first | assumption | rfl) ?_
    refine wp_aload_n (pc' := 10) rfl rfl rfl (by decide) ?_
    refine wp_getI (ci := 10) (k0 := 12) (pc' := 13) rfl rfl (by decide) (by first | assumption | rfl) ?_
    refine wp_imul (pc' := 14) rfl rfl (by first | exact w32_id (by omega) (by omega) | rfl) ?_
    refine wp_icmp_ge (pc' := 17) (pt := 40) rfl rfl rfl (fun q_1 => ?_) (fun q_1 => ?_)
    · skip
      exfalso; omega
    · skip
      refine wp_iload_n (pc' := 18) rfl rfl rfl ?_
      refine wp_aload_n (pc' := 19) rfl rfl rfl (by decide) ?_
      refine wp_iload_n (pc' := 20) rfl rfl rfl ?_
      refine wp_iload_n (pc' := 21) rfl rfl rfl ?_
      refine wp_call (pc' := 24) rfl rfl rfl rfl rfl ⟨Nat.le_of_ble_eq_true rfl, Nat.le_of_ble_eq_true rfl, Nat.le_of_ble_eq_true rfl, Nat.le_of_ble_eq_true rfl, Nat.le_of_ble_eq_true rfl⟩ rfl (c_Mod_gainOn hp.1 (by omega) hT ⟨h0, by omega⟩ (hp.2.2 i0 (by omega) (by omega)).2.1) ?_
      intro v1 w9 hq1
      rw [hq1.1, hq1.2]
      clear hq1 v1 w9
      dsimp only [Option.toList, List.cons_append, List.nil_append, List.append_nil]
      refine wp_if_le (pc' := 27) (pt := 31) rfl rfl rfl (fun q_2 => ?_) (fun q_2 => ?_)
      · skip
        refine wp_iconst (a := 0) (pc' := 32) rfl rfl rfl ?_
        refine wp_iadd (pc' := 33) rfl rfl (by first | exact w32_id (by omega) (by omega) | rfl) ?_
        refine wp_istore_n (pc' := 34) rfl rfl (Nat.le_of_ble_eq_true rfl) rfl ?_
        dsimp only [lset, lset2, List.set, List.getElem?_cons_zero, List.getElem?_cons_succ]
        refine wp_iinc (pc' := 37) rfl rfl rfl (inc_id (by omega) (by omega)) rfl ?_
        dsimp only [lset, lset2, List.set, List.getElem?_cons_zero, List.getElem?_cons_succ]
        refine wp_goto (pc' := 4) rfl rfl ?_
        exact ih (i + 1) _ (by omega) (by omega) (by rw [sumI_s _ h0, ← hs]; unfold fGc; (repeat' split) <;> first | rfl | omega | (exfalso; omega))
      · skip
        refine wp_iconst (a := 1) (pc' := 28) rfl rfl rfl ?_
        refine wp_goto (pc' := 32) rfl rfl ?_
        refine wp_iadd (pc' := 33) rfl rfl (by first | exact w32_id (by omega) (by omega) | rfl) ?_
        refine wp_istore_n (pc' := 34) rfl rfl (Nat.le_of_ble_eq_true rfl) rfl ?_
        dsimp only [lset, lset2, List.set, List.getElem?_cons_zero, List.getElem?_cons_succ]
        refine wp_iinc (pc' := 37) rfl rfl rfl (inc_id (by omega) (by omega)) rfl ?_
        dsimp only [lset, lset2, List.set, List.getElem?_cons_zero, List.getElem?_cons_succ]
        refine wp_goto (pc' := 4) rfl rfl ?_
        exact ih (i + 1) _ (by omega) (by omega) (by rw [sumI_s _ h0, ← hs]; unfold fGc; (repeat' split) <;> first | rfl | omega | (exfalso; omega))
set_option maxRecDepth 20000 in
set_option maxHeartbeats 4000000 in
theorem c_Mod_cellsOf {w : Hp} {d : Nat} {i0 : Int} (hT : Stc w) (hp : MdOK w) (hi : 0 ≤ i0 ∧ i0 < w 100 10) : WP SH (d + 4) 187 0 [some (vR 100), some (vI i0), none, none] [] w (fun v w' => v = some (vI (sumI (fGc (w 100 11) (w 107 i0) (w 109 (3 + i0))) (w 100 11 * w 100 12))) ∧ w' = w) := by
  refine wp_iconst (a := 0) (pc' := 1) rfl rfl rfl ?_
  refine wp_istore_n (pc' := 2) rfl rfl (Nat.le_of_ble_eq_true rfl) rfl ?_
  dsimp only [lset, lset2, List.set, List.getElem?_cons_zero, List.getElem?_cons_succ]
  refine wp_iconst (a := 0) (pc' := 3) rfl rfl rfl ?_
  refine wp_istore_n (pc' := 4) rfl rfl (Nat.le_of_ble_eq_true rfl) rfl ?_
  dsimp only [lset, lset2, List.set, List.getElem?_cons_zero, List.getElem?_cons_succ]
  have hml := hp.1.mul
  exact l_cellsOf hT hp hi (w 100 11 * w 100 12).toNat 0 0 (by decide) (by omega) rfl
set_option maxRecDepth 20000 in
set_option maxHeartbeats 4000000 in
theorem p_mark {w : Hp} {d : Nat} {i : Int} {kind : Int} (hI : Inv w) : WP SH (d + 9) 91 0 [some (vR 0), some (vI i), some (vI kind)] [] w (fun v0 w1 => ∃ a, v0 = some (vI a) ∧ w1 (-2) = w (-2) ∧ WP SH (d + 9) 188 0 [some (vR 100), some (vI i), some (vI kind), none, none, none] [] w1 (fun v2 w2 => v2 = some (vI a) ∧ w2 (-2) = w1 (-2) ∧ Inv w2)) := by
  obtain ⟨hT, hRO, hIF, hITo, hIR, hIT, hIL, hIK⟩ := id hI
  obtain ⟨hn25, b11, b12, b10, hn6, hem, m0, m1, m2, m23, hyr, hdd, hpre⟩ := hI.base
  have hmm : w 100 11 * w 100 12 = w 3 0 * w 3 1 := by rw [b11, b12]
  refine wp_aload_n (pc' := 1) rfl rfl rfl (by decide) ?_
  refine wp_getR (r' := 3) (ci := 9) (k0 := 2) (pc' := 4) rfl rfl (by decide) (by first | assumption | rfl) (hT.get 2 rfl) ?_
  refine wp_iload_n (pc' := 5) rfl rfl rfl ?_
  refine wp_call (pc' := 8) rfl rfl rfl rfl rfl ⟨Nat.le_of_ble_eq_true rfl, Nat.le_of_ble_eq_true rfl, Nat.le_of_ble_eq_true rfl, Nat.le_of_ble_eq_true rfl, Nat.le_of_ble_eq_true rfl⟩ rfl (c_Land_hasOne) ?_
  rintro v1 w9 ⟨hw9, ⟨hv1, ho⟩ | ⟨hv1, ho⟩⟩
  · skip
    rw [hv1, hw9]
    clear hv1 hw9 v1 w9
    have hpr := hpre (by omega)
    have hn0 : w 3 2 ≠ 0 := by omega
    have hai := hpr.1.2.2 i ho.1 ho.2
    have hhi := hpr.2.2.2.2 i ho.1 ho.2
    have hxm : Cel (w 100 11) (w 100 12) (w 109 0) := by rw [b11, b12, m0]; exact hpr.2.2.1
    have hxh : Cel (w 100 11) (w 100 12) (w 109 (3 + i)) := by rw [b11, b12, hhi.2.1]; exact hai.2.1
    have hdm := hpr.2.2.1.dm hpr.1.1
    have hdh := hai.2.1.dm hpr.1.1
    have hf8 := sFar_in hpr.1.1 hpr.2.2.1 hai.2.1
    have hg8 := sG_in (k := w 4 i) hpr.1.1 hai.2.1 hpr.2.2.1
    have hCL := id hpr.1.1
    obtain ⟨hC1, hC2, hC3, hC4⟩ := hCL
    dsimp only [Option.toList, List.cons_append, List.nil_append, List.append_nil]
    refine wp_if_eq (pc' := 11) (pt := 21) rfl rfl rfl (fun q_1 => absurd q_1 (by decide)) (fun q_1 => ?_)
    refine wp_iload_n (pc' := 12) rfl rfl rfl ?_
    refine wp_iconst (a := 1) (pc' := 13) rfl rfl rfl ?_
    refine wp_icmp_lt (pc' := 16) (pt := 21) rfl rfl rfl (fun q_2 => ?_) (fun q_2 => ?_)
    · skip
      refine wp_iconst (a := -1) (pc' := 22) rfl rfl rfl ?_
      refine wp_ret rfl rfl rfl ?_
      refine ⟨_, rfl, ?_, ?_⟩
      · rfl
      refine wp_aload_n (pc' := 1) rfl rfl rfl (by decide) ?_
      refine wp_iload_n (pc' := 2) rfl rfl rfl ?_
      refine wp_call (pc' := 5) rfl rfl rfl rfl rfl ⟨Nat.le_of_ble_eq_true rfl, Nat.le_of_ble_eq_true rfl, Nat.le_of_ble_eq_true rfl, Nat.le_of_ble_eq_true rfl, Nat.le_of_ble_eq_true rfl⟩ rfl (c_Mod_isOne (by omega)) ?_
      rintro v1 w9 ⟨hw9, ⟨hv1, ho2⟩ | ⟨hv1, ho2⟩⟩
      · skip
        rw [hv1, hw9]
        clear hv1 hw9 v1 w9
        dsimp only [Option.toList, List.cons_append, List.nil_append, List.append_nil]
        refine wp_if_eq (pc' := 8) (pt := 17) rfl rfl rfl (fun q_53 => absurd q_53 (by decide)) (fun q_53 => ?_)
        refine wp_iload_n (pc' := 9) rfl rfl rfl ?_
        refine wp_iconst (a := 1) (pc' := 10) rfl rfl rfl ?_
        refine wp_iconst (a := 5) (pc' := 11) rfl rfl rfl ?_
        refine wp_call (pc' := 14) rfl rfl rfl rfl rfl ⟨Nat.le_of_ble_eq_true rfl, Nat.le_of_ble_eq_true rfl, Nat.le_of_ble_eq_true rfl, Nat.le_of_ble_eq_true rfl, Nat.le_of_ble_eq_true rfl⟩ rfl (c_Mod_in) ?_
        rintro v1 w9 ⟨hw9, ⟨hv1, hin⟩ | ⟨hv1, hin⟩⟩
        · skip
          rw [hv1, hw9]
          clear hv1 hw9 v1 w9
          dsimp only [Option.toList, List.cons_append, List.nil_append, List.append_nil]
          refine wp_if_ne (pc' := 17) (pt := 19) rfl rfl rfl (fun q_54 => ?_) (fun q_54 => absurd (by decide) q_54)
          exfalso; omega
        · skip
          rw [hv1, hw9]
          clear hv1 hw9 v1 w9
          dsimp only [Option.toList, List.cons_append, List.nil_append, List.append_nil]
          refine wp_if_ne (pc' := 17) (pt := 19) rfl rfl rfl (fun q_55 => absurd q_55 (by decide)) (fun q_55 => ?_)
          refine wp_iconst (a := -1) (pc' := 18) rfl rfl rfl ?_
          refine wp_ret rfl rfl rfl ?_
          first
          | (exfalso; omega)
          | exact ⟨rfl, rfl, hI⟩
      · skip
        rw [hv1, hw9]
        clear hv1 hw9 v1 w9
        dsimp only [Option.toList, List.cons_append, List.nil_append, List.append_nil]
        refine wp_if_eq (pc' := 8) (pt := 17) rfl rfl rfl (fun q_56 => ?_) (fun q_56 => absurd (by decide) q_56)
        refine wp_iconst (a := -1) (pc' := 18) rfl rfl rfl ?_
        refine wp_ret rfl rfl rfl ?_
        first
        | (exfalso; omega)
        | exact ⟨rfl, rfl, hI⟩
    · skip
      refine wp_iload_n (pc' := 17) rfl rfl rfl ?_
      refine wp_iconst (a := 5) (pc' := 18) rfl rfl rfl ?_
      refine wp_icmp_le (pc' := 21) (pt := 23) rfl rfl rfl (fun q_57 => ?_) (fun q_57 => ?_)
      · skip
        refine wp_aload_n (pc' := 24) rfl rfl rfl (by decide) ?_
        refine wp_getR (r' := 3) (ci := 9) (k0 := 2) (pc' := 27) rfl rfl (by decide) (by first | assumption | rfl) (hT.get 2 rfl) ?_
        refine wp_iload_n (pc' := 28) rfl rfl rfl ?_
        refine wp_iload_n (pc' := 29) rfl rfl rfl ?_
        refine wp_call (pc' := 32) rfl rfl rfl rfl rfl ⟨Nat.le_of_ble_eq_true rfl, Nat.le_of_ble_eq_true rfl, Nat.le_of_ble_eq_true rfl, Nat.le_of_ble_eq_true rfl, Nat.le_of_ble_eq_true rfl⟩ rfl (c_Land_isOf hRO hT (by omega) hai.1) ?_
        rintro v1 w9 ⟨hw9, ⟨hv1, hof⟩ | ⟨hv1, hof⟩⟩
        · skip
          rw [hv1, hw9]
          clear hv1 hw9 v1 w9
          dsimp only [Option.toList, List.cons_append, List.nil_append, List.append_nil]
          refine wp_if_ne (pc' := 35) (pt := 41) rfl rfl rfl (fun q_58 => ?_) (fun q_58 => absurd (by decide) q_58)
          refine wp_iload_n (pc' := 42) rfl rfl rfl ?_
          refine wp_swE (1) (pt := 72) rfl (by decide) rfl rfl (fun q_59 => ?_) (fun q_59 => ?_)
          · skip
            refine wp_aload_n (pc' := 73) rfl rfl rfl (by decide) ?_
            refine wp_getR (r' := 3) (ci := 9) (k0 := 2) (pc' := 76) rfl rfl (by decide) (by first | assumption | rfl) (hT.get 2 rfl) ?_
            refine wp_iload_n (pc' := 77) rfl rfl rfl ?_
            refine wp_aload_n (pc' := 78) rfl rfl rfl (by decide) ?_
            refine wp_getR (r' := 3) (ci := 9) (k0 := 2) (pc' := 81) rfl rfl (by decide) (by first | assumption | rfl) (hT.get 2 rfl) ?_
            refine wp_getI (ci := 3) (k0 := 3) (pc' := 84) rfl rfl (by decide) (by first | assumption | rfl) ?_
            refine wp_call (pc' := 87) rfl rfl rfl rfl rfl ⟨Nat.le_of_ble_eq_true rfl, Nat.le_of_ble_eq_true rfl, Nat.le_of_ble_eq_true rfl, Nat.le_of_ble_eq_true rfl, Nat.le_of_ble_eq_true rfl⟩ rfl (c_Land_liesNorth hpr.1.1 (by omega) hT hpr.2.2.1 hai.2.1) ?_
            intro v1 w9 hq1
            rw [hq1.1, hq1.2]
            clear hq1 v1 w9
            dsimp only [Option.toList, List.cons_append, List.nil_append, List.append_nil]
            refine wp_if_eq (pc' := 90) (pt := 94) rfl rfl rfl (fun q_60 => ?_) (fun q_60 => ?_)
            · skip
              refine wp_iconst (a := 0) (pc' := 95) rfl rfl rfl ?_
              refine wp_ret rfl rfl rfl ?_
              refine ⟨_, rfl, ?_, ?_⟩
              · rfl
              refine wp_aload_n (pc' := 1) rfl rfl rfl (by decide) ?_
              refine wp_iload_n (pc' := 2) rfl rfl rfl ?_
              refine wp_call (pc' := 5) rfl rfl rfl rfl rfl ⟨Nat.le_of_ble_eq_true rfl, Nat.le_of_ble_eq_true rfl, Nat.le_of_ble_eq_true rfl, Nat.le_of_ble_eq_true rfl, Nat.le_of_ble_eq_true rfl⟩ rfl (c_Mod_isOne (by omega)) ?_
              rintro v1 w9 ⟨hw9, ⟨hv1, ho2⟩ | ⟨hv1, ho2⟩⟩
              · skip
                rw [hv1, hw9]
                clear hv1 hw9 v1 w9
                dsimp only [Option.toList, List.cons_append, List.nil_append, List.append_nil]
                refine wp_if_eq (pc' := 8) (pt := 17) rfl rfl rfl (fun q_111 => absurd q_111 (by decide)) (fun q_111 => ?_)
                refine wp_iload_n (pc' := 9) rfl rfl rfl ?_
                refine wp_iconst (a := 1) (pc' := 10) rfl rfl rfl ?_
                refine wp_iconst (a := 5) (pc' := 11) rfl rfl rfl ?_
                refine wp_call (pc' := 14) rfl rfl rfl rfl rfl ⟨Nat.le_of_ble_eq_true rfl, Nat.le_of_ble_eq_true rfl, Nat.le_of_ble_eq_true rfl, Nat.le_of_ble_eq_true rfl, Nat.le_of_ble_eq_true rfl⟩ rfl (c_Mod_in) ?_
                rintro v1 w9 ⟨hw9, ⟨hv1, hin⟩ | ⟨hv1, hin⟩⟩
                · skip
                  rw [hv1, hw9]
                  clear hv1 hw9 v1 w9
                  dsimp only [Option.toList, List.cons_append, List.nil_append, List.append_nil]
                  refine wp_if_ne (pc' := 17) (pt := 19) rfl rfl rfl (fun q_112 => ?_) (fun q_112 => absurd (by decide) q_112)
                  have hk4 : w 107 i = w 4 i := hhi.1
                  unfold sWider at hof
                  refine wp_aload_n (pc' := 20) rfl rfl rfl (by decide) ?_
                  refine wp_getR (r' := 107) (ci := 10) (k0 := 13) (pc' := 23) rfl rfl (by decide) (by first | assumption | rfl) (hT.get 105 rfl) ?_
                  refine wp_iload_n (pc' := 24) rfl rfl rfl ?_
                  refine wp_iaload (pc' := 25) rfl rfl (by first | assumption | rfl) (by omega) ?_
                  refine wp_istore_n (pc' := 26) rfl rfl (Nat.le_of_ble_eq_true rfl) rfl ?_
                  dsimp only [lset, lset2, List.set, List.getElem?_cons_zero, List.getElem?_cons_succ]
                  refine wp_iload_n (pc' := 27) rfl rfl rfl ?_
                  refine wp_iload_n (pc' := 28) rfl rfl rfl ?_
                  refine wp_icmp_eq (pc' := 31) (pt := 57) rfl rfl rfl (fun q_113 => ?_) (fun q_113 => ?_)
                  · skip
                    refine wp_aload_n (pc' := 58) rfl rfl rfl (by decide) ?_
                    refine wp_aload_n (pc' := 59) rfl rfl rfl (by decide) ?_
                    refine wp_getR (r' := 109) (ci := 10) (k0 := 15) (pc' := 62) rfl rfl (by decide) (by first | assumption | rfl) (hT.get 107 rfl) ?_
                    refine wp_iconst (a := 3) (pc' := 63) rfl rfl rfl ?_
                    refine wp_iload_n (pc' := 64) rfl rfl rfl ?_
                    refine wp_iadd (pc' := 65) rfl rfl (by first | exact w32_id (by omega) (by omega) | rfl) ?_
                    refine wp_iaload (pc' := 66) rfl rfl (by first | assumption | rfl) (by omega) ?_
                    refine wp_aload_n (pc' := 67) rfl rfl rfl (by decide) ?_
                    refine wp_getR (r' := 109) (ci := 10) (k0 := 15) (pc' := 70) rfl rfl (by decide) (by first | assumption | rfl) (hT.get 107 rfl) ?_
                    refine wp_iconst (a := 0) (pc' := 71) rfl rfl rfl ?_
                    refine wp_iaload (pc' := 72) rfl rfl (by first | assumption | rfl) (by omega) ?_
                    refine wp_call (pc' := 75) rfl rfl rfl rfl rfl ⟨Nat.le_of_ble_eq_true rfl, Nat.le_of_ble_eq_true rfl, Nat.le_of_ble_eq_true rfl, Nat.le_of_ble_eq_true rfl, Nat.le_of_ble_eq_true rfl⟩ rfl (c_Mod_far hpr.2.1.1 hxh hxm) ?_
                    intro v1 w9 hq1
                    rw [hq1.1, hq1.2]
                    clear hq1 v1 w9
                    rw [b11, m0, hhi.2.1, sFar_comm]
                    dsimp only [Option.toList, List.cons_append, List.nil_append, List.append_nil]
                    refine wp_istore (pc' := 77) rfl rfl (Nat.le_of_ble_eq_true rfl) rfl ?_
                    dsimp only [lset, lset2, List.set, List.getElem?_cons_zero, List.getElem?_cons_succ]
                    refine wp_iload_n (pc' := 78) rfl rfl rfl ?_
                    refine wp_swE (1) (pt := 108) rfl (by decide) rfl rfl (fun q_114 => ?_) (fun q_114 => ?_)
                    · skip
                      refine wp_aload_n (pc' := 109) rfl rfl rfl (by decide) ?_
                      refine wp_getR (r' := 109) (ci := 10) (k0 := 15) (pc' := 112) rfl rfl (by decide) (by first | assumption | rfl) (hT.get 107 rfl) ?_
                      refine wp_iconst (a := 0) (pc' := 113) rfl rfl rfl ?_
                      refine wp_iaload (pc' := 114) rfl rfl (by first | assumption | rfl) (by omega) ?_
                      refine wp_aload_n (pc' := 115) rfl rfl rfl (by decide) ?_
                      refine wp_getI (ci := 10) (k0 := 11) (pc' := 118) rfl rfl (by decide) (by first | assumption | rfl) ?_
                      refine wp_idiv (pc' := 119) rfl rfl (by omega) (by first | exact iDiv_pos (by omega) (by omega) (by omega) | rfl) ?_
                      refine wp_aload_n (pc' := 120) rfl rfl rfl (by decide) ?_
                      refine wp_getR (r' := 109) (ci := 10) (k0 := 15) (pc' := 123) rfl rfl (by decide) (by first | assumption | rfl) (hT.get 107 rfl) ?_
                      refine wp_iconst (a := 3) (pc' := 124) rfl rfl rfl ?_
                      refine wp_iload_n (pc' := 125) rfl rfl rfl ?_
                      refine wp_iadd (pc' := 126) rfl rfl (by first | exact w32_id (by omega) (by omega) | rfl) ?_
                      refine wp_iaload (pc' := 127) rfl rfl (by first | assumption | rfl) (by omega) ?_
                      refine wp_aload_n (pc' := 128) rfl rfl rfl (by decide) ?_
                      refine wp_getI (ci := 10) (k0 := 11) (pc' := 131) rfl rfl (by decide) (by first | assumption | rfl) ?_
                      refine wp_idiv (pc' := 132) rfl rfl (by omega) (by first | exact iDiv_pos (by omega) (by omega) (by omega) | rfl) ?_
                      refine wp_icmp_ge (pc' := 135) (pt := 139) rfl rfl rfl (fun q_115 => ?_) (fun q_115 => ?_)
                      · skip
                        refine wp_iconst (a := 0) (pc' := 140) rfl rfl rfl ?_
                        refine wp_ret rfl rfl rfl ?_
                        first
                        | (exfalso; omega)
                        | (refine ⟨congrArg (fun z => some (vI z)) ?_, rfl, hI⟩
                           first
                           | rfl
                           | (unfold sNorth at *; rw [m0, hhi.2.1, b11] at *; (repeat' split at *) <;> omega)
                           | (rw [b10, b11, b12, m0, m1]
                              refine sumI_congr (fun j a b => ?_)
                              unfold fSil
                              rw [fVote_congr (K := w 107) (H := fun i => w 109 (3 + i)) (K' := w 4) (H' := w 5) (hpr.2.2.2.2 j a b).1 (hpr.2.2.2.2 j a b).2.1])
                           | (rw [b11, b12, hhi.1, hhi.2.1])
                           | (split <;> omega)
                           | omega)
                      · skip
                        refine wp_iconst (a := 1) (pc' := 136) rfl rfl rfl ?_
                        refine wp_goto (pc' := 140) rfl rfl ?_
                        refine wp_ret rfl rfl rfl ?_
                        first
                        | (exfalso; omega)
                        | (refine ⟨congrArg (fun z => some (vI z)) ?_, rfl, hI⟩
                           first
                           | rfl
                           | (unfold sNorth at *; rw [m0, hhi.2.1, b11] at *; (repeat' split at *) <;> omega)
                           | (rw [b10, b11, b12, m0, m1]
                              refine sumI_congr (fun j a b => ?_)
                              unfold fSil
                              rw [fVote_congr (K := w 107) (H := fun i => w 109 (3 + i)) (K' := w 4) (H' := w 5) (hpr.2.2.2.2 j a b).1 (hpr.2.2.2.2 j a b).2.1])
                           | (rw [b11, b12, hhi.1, hhi.2.1])
                           | (split <;> omega)
                           | omega)
                    refine wp_swE (2) (pt := 141) rfl (by decide) rfl rfl (fun q_116 => ?_) (fun q_116 => ?_)
                    · skip
                      exfalso; omega
                    refine wp_swE (3) (pt := 144) rfl (by decide) rfl rfl (fun q_117 => ?_) (fun q_117 => ?_)
                    · skip
                      exfalso; omega
                    refine wp_swE (4) (pt := 150) rfl (by decide) rfl rfl (fun q_118 => ?_) (fun q_118 => ?_)
                    · skip
                      exfalso; omega
                    refine wp_swOut (pc' := 181) rfl (by omega) rfl ?_
                    exfalso; omega
                  · skip
                    refine wp_iload_n (pc' := 32) rfl rfl rfl ?_
                    refine wp_iconst (a := 2) (pc' := 33) rfl rfl rfl ?_
                    refine wp_icmp_ne (pc' := 36) (pt := 41) rfl rfl rfl (fun q_119 => ?_) (fun q_119 => ?_)
                    · skip
                      refine wp_iload_n (pc' := 42) rfl rfl rfl ?_
                      refine wp_iconst (a := 3) (pc' := 43) rfl rfl rfl ?_
                      refine wp_icmp_ne (pc' := 46) (pt := 51) rfl rfl rfl (fun q_120 => ?_) (fun q_120 => ?_)
                      · skip
                        exfalso
                        (repeat' split at hof) <;> omega
                      · skip
                        refine wp_iload_n (pc' := 47) rfl rfl rfl ?_
                        refine wp_iconst (a := 5) (pc' := 48) rfl rfl rfl ?_
                        refine wp_icmp_eq (pc' := 51) (pt := 57) rfl rfl rfl (fun q_121 => ?_) (fun q_121 => ?_)
                        · skip
                          refine wp_aload_n (pc' := 58) rfl rfl rfl (by decide) ?_
                          refine wp_aload_n (pc' := 59) rfl rfl rfl (by decide) ?_
                          refine wp_getR (r' := 109) (ci := 10) (k0 := 15) (pc' := 62) rfl rfl (by decide) (by first | assumption | rfl) (hT.get 107 rfl) ?_
                          refine wp_iconst (a := 3) (pc' := 63) rfl rfl rfl ?_
                          refine wp_iload_n (pc' := 64) rfl rfl rfl ?_
                          refine wp_iadd (pc' := 65) rfl rfl (by first | exact w32_id (by omega) (by omega) | rfl) ?_
                          refine wp_iaload (pc' := 66) rfl rfl (by first | assumption | rfl) (by omega) ?_
                          refine wp_aload_n (pc' := 67) rfl rfl rfl (by decide) ?_
                          refine wp_getR (r' := 109) (ci := 10) (k0 := 15) (pc' := 70) rfl rfl (by decide) (by first | assumption | rfl) (hT.get 107 rfl) ?_
                          refine wp_iconst (a := 0) (pc' := 71) rfl rfl rfl ?_
                          refine wp_iaload (pc' := 72) rfl rfl (by first | assumption | rfl) (by omega) ?_
                          refine wp_call (pc' := 75) rfl rfl rfl rfl rfl ⟨Nat.le_of_ble_eq_true rfl, Nat.le_of_ble_eq_true rfl, Nat.le_of_ble_eq_true rfl, Nat.le_of_ble_eq_true rfl, Nat.le_of_ble_eq_true rfl⟩ rfl (c_Mod_far hpr.2.1.1 hxh hxm) ?_
                          intro v1 w9 hq1
                          rw [hq1.1, hq1.2]
                          clear hq1 v1 w9
                          rw [b11, m0, hhi.2.1, sFar_comm]
                          dsimp only [Option.toList, List.cons_append, List.nil_append, List.append_nil]
                          refine wp_istore (pc' := 77) rfl rfl (Nat.le_of_ble_eq_true rfl) rfl ?_
                          dsimp only [lset, lset2, List.set, List.getElem?_cons_zero, List.getElem?_cons_succ]
                          refine wp_iload_n (pc' := 78) rfl rfl rfl ?_
                          refine wp_swE (1) (pt := 108) rfl (by decide) rfl rfl (fun q_122 => ?_) (fun q_122 => ?_)
                          · skip
                            refine wp_aload_n (pc' := 109) rfl rfl rfl (by decide) ?_
                            refine wp_getR (r' := 109) (ci := 10) (k0 := 15) (pc' := 112) rfl rfl (by decide) (by first | assumption | rfl) (hT.get 107 rfl) ?_
                            refine wp_iconst (a := 0) (pc' := 113) rfl rfl rfl ?_
                            refine wp_iaload (pc' := 114) rfl rfl (by first | assumption | rfl) (by omega) ?_
                            refine wp_aload_n (pc' := 115) rfl rfl rfl (by decide) ?_
                            refine wp_getI (ci := 10) (k0 := 11) (pc' := 118) rfl rfl (by decide) (by first | assumption | rfl) ?_
                            refine wp_idiv (pc' := 119) rfl rfl (by omega) (by first | exact iDiv_pos (by omega) (by omega) (by omega) | rfl) ?_
                            refine wp_aload_n (pc' := 120) rfl rfl rfl (by decide) ?_
                            refine wp_getR (r' := 109) (ci := 10) (k0 := 15) (pc' := 123) rfl rfl (by decide) (by first | assumption | rfl) (hT.get 107 rfl) ?_
                            refine wp_iconst (a := 3) (pc' := 124) rfl rfl rfl ?_
                            refine wp_iload_n (pc' := 125) rfl rfl rfl ?_
                            refine wp_iadd (pc' := 126) rfl rfl (by first | exact w32_id (by omega) (by omega) | rfl) ?_
                            refine wp_iaload (pc' := 127) rfl rfl (by first | assumption | rfl) (by omega) ?_
                            refine wp_aload_n (pc' := 128) rfl rfl rfl (by decide) ?_
                            refine wp_getI (ci := 10) (k0 := 11) (pc' := 131) rfl rfl (by decide) (by first | assumption | rfl) ?_
                            refine wp_idiv (pc' := 132) rfl rfl (by omega) (by first | exact iDiv_pos (by omega) (by omega) (by omega) | rfl) ?_
                            refine wp_icmp_ge (pc' := 135) (pt := 139) rfl rfl rfl (fun q_123 => ?_) (fun q_123 => ?_)
                            · skip
                              refine wp_iconst (a := 0) (pc' := 140) rfl rfl rfl ?_
                              refine wp_ret rfl rfl rfl ?_
                              first
                              | (exfalso; omega)
                              | (refine ⟨congrArg (fun z => some (vI z)) ?_, rfl, hI⟩
                                 first
                                 | rfl
                                 | (unfold sNorth at *; rw [m0, hhi.2.1, b11] at *; (repeat' split at *) <;> omega)
                                 | (rw [b10, b11, b12, m0, m1]
                                    refine sumI_congr (fun j a b => ?_)
                                    unfold fSil
                                    rw [fVote_congr (K := w 107) (H := fun i => w 109 (3 + i)) (K' := w 4) (H' := w 5) (hpr.2.2.2.2 j a b).1 (hpr.2.2.2.2 j a b).2.1])
                                 | (rw [b11, b12, hhi.1, hhi.2.1])
                                 | (split <;> omega)
                                 | omega)
                            · skip
                              refine wp_iconst (a := 1) (pc' := 136) rfl rfl rfl ?_
                              refine wp_goto (pc' := 140) rfl rfl ?_
                              refine wp_ret rfl rfl rfl ?_
                              first
                              | (exfalso; omega)
                              | (refine ⟨congrArg (fun z => some (vI z)) ?_, rfl, hI⟩
                                 first
                                 | rfl
                                 | (unfold sNorth at *; rw [m0, hhi.2.1, b11] at *; (repeat' split at *) <;> omega)
                                 | (rw [b10, b11, b12, m0, m1]
                                    refine sumI_congr (fun j a b => ?_)
                                    unfold fSil
                                    rw [fVote_congr (K := w 107) (H := fun i => w 109 (3 + i)) (K' := w 4) (H' := w 5) (hpr.2.2.2.2 j a b).1 (hpr.2.2.2.2 j a b).2.1])
                                 | (rw [b11, b12, hhi.1, hhi.2.1])
                                 | (split <;> omega)
                                 | omega)
                          refine wp_swE (2) (pt := 141) rfl (by decide) rfl rfl (fun q_124 => ?_) (fun q_124 => ?_)
                          · skip
                            exfalso; omega
                          refine wp_swE (3) (pt := 144) rfl (by decide) rfl rfl (fun q_125 => ?_) (fun q_125 => ?_)
                          · skip
                            exfalso; omega
                          refine wp_swE (4) (pt := 150) rfl (by decide) rfl rfl (fun q_126 => ?_) (fun q_126 => ?_)
                          · skip
                            exfalso; omega
                          refine wp_swOut (pc' := 181) rfl (by omega) rfl ?_
                          exfalso; omega
                        · skip
                          exfalso
                          (repeat' split at hof) <;> omega
                    · skip
                      refine wp_iload_n (pc' := 37) rfl rfl rfl ?_
                      refine wp_iconst (a := 4) (pc' := 38) rfl rfl rfl ?_
                      refine wp_icmp_eq (pc' := 41) (pt := 57) rfl rfl rfl (fun q_127 => ?_) (fun q_127 => ?_)
                      · skip
                        refine wp_aload_n (pc' := 58) rfl rfl rfl (by decide) ?_
                        refine wp_aload_n (pc' := 59) rfl rfl rfl (by decide) ?_
                        refine wp_getR (r' := 109) (ci := 10) (k0 := 15) (pc' := 62) rfl rfl (by decide) (by first | assumption | rfl) (hT.get 107 rfl) ?_
                        refine wp_iconst (a := 3) (pc' := 63) rfl rfl rfl ?_
                        refine wp_iload_n (pc' := 64) rfl rfl rfl ?_
                        refine wp_iadd (pc' := 65) rfl rfl (by first | exact w32_id (by omega) (by omega) | rfl) ?_
                        refine wp_iaload (pc' := 66) rfl rfl (by first | assumption | rfl) (by omega) ?_
                        refine wp_aload_n (pc' := 67) rfl rfl rfl (by decide) ?_
                        refine wp_getR (r' := 109) (ci := 10) (k0 := 15) (pc' := 70) rfl rfl (by decide) (by first | assumption | rfl) (hT.get 107 rfl) ?_
                        refine wp_iconst (a := 0) (pc' := 71) rfl rfl rfl ?_
                        refine wp_iaload (pc' := 72) rfl rfl (by first | assumption | rfl) (by omega) ?_
                        refine wp_call (pc' := 75) rfl rfl rfl rfl rfl ⟨Nat.le_of_ble_eq_true rfl, Nat.le_of_ble_eq_true rfl, Nat.le_of_ble_eq_true rfl, Nat.le_of_ble_eq_true rfl, Nat.le_of_ble_eq_true rfl⟩ rfl (c_Mod_far hpr.2.1.1 hxh hxm) ?_
                        intro v1 w9 hq1
                        rw [hq1.1, hq1.2]
                        clear hq1 v1 w9
                        rw [b11, m0, hhi.2.1, sFar_comm]
                        dsimp only [Option.toList, List.cons_append, List.nil_append, List.append_nil]
                        refine wp_istore (pc' := 77) rfl rfl (Nat.le_of_ble_eq_true rfl) rfl ?_
                        dsimp only [lset, lset2, List.set, List.getElem?_cons_zero, List.getElem?_cons_succ]
                        refine wp_iload_n (pc' := 78) rfl rfl rfl ?_
                        refine wp_swE (1) (pt := 108) rfl (by decide) rfl rfl (fun q_128 => ?_) (fun q_128 => ?_)
                        · skip
                          refine wp_aload_n (pc' := 109) rfl rfl rfl (by decide) ?_
                          refine wp_getR (r' := 109) (ci := 10) (k0 := 15) (pc' := 112) rfl rfl (by decide) (by first | assumption | rfl) (hT.get 107 rfl) ?_
                          refine wp_iconst (a := 0) (pc' := 113) rfl rfl rfl ?_
                          refine wp_iaload (pc' := 114) rfl rfl (by first | assumption | rfl) (by omega) ?_
                          refine wp_aload_n (pc' := 115) rfl rfl rfl (by decide) ?_
                          refine wp_getI (ci := 10) (k0 := 11) (pc' := 118) rfl rfl (by decide) (by first | assumption | rfl) ?_
                          refine wp_idiv (pc' := 119) rfl rfl (by omega) (by first | exact iDiv_pos (by omega) (by omega) (by omega) | rfl) ?_
                          refine wp_aload_n (pc' := 120) rfl rfl rfl (by decide) ?_
                          refine wp_getR (r' := 109) (ci := 10) (k0 := 15) (pc' := 123) rfl rfl (by decide) (by first | assumption | rfl) (hT.get 107 rfl) ?_
                          refine wp_iconst (a := 3) (pc' := 124) rfl rfl rfl ?_
                          refine wp_iload_n (pc' := 125) rfl rfl rfl ?_
                          refine wp_iadd (pc' := 126) rfl rfl (by first | exact w32_id (by omega) (by omega) | rfl) ?_
                          refine wp_iaload (pc' := 127) rfl rfl (by first | assumption | rfl) (by omega) ?_
                          refine wp_aload_n (pc' := 128) rfl rfl rfl (by decide) ?_
                          refine wp_getI (ci := 10) (k0 := 11) (pc' := 131) rfl rfl (by decide) (by first | assumption | rfl) ?_
                          refine wp_idiv (pc' := 132) rfl rfl (by omega) (by first | exact iDiv_pos (by omega) (by omega) (by omega) | rfl) ?_
                          refine wp_icmp_ge (pc' := 135) (pt := 139) rfl rfl rfl (fun q_129 => ?_) (fun q_129 => ?_)
                          · skip
                            refine wp_iconst (a := 0) (pc' := 140) rfl rfl rfl ?_
                            refine wp_ret rfl rfl rfl ?_
                            first
                            | (exfalso; omega)
                            | (refine ⟨congrArg (fun z => some (vI z)) ?_, rfl, hI⟩
                               first
                               | rfl
                               | (unfold sNorth at *; rw [m0, hhi.2.1, b11] at *; (repeat' split at *) <;> omega)
                               | (rw [b10, b11, b12, m0, m1]
                                  refine sumI_congr (fun j a b => ?_)
                                  unfold fSil
                                  rw [fVote_congr (K := w 107) (H := fun i => w 109 (3 + i)) (K' := w 4) (H' := w 5) (hpr.2.2.2.2 j a b).1 (hpr.2.2.2.2 j a b).2.1])
                               | (rw [b11, b12, hhi.1, hhi.2.1])
                               | (split <;> omega)
                               | omega)
                          · skip
                            refine wp_iconst (a := 1) (pc' := 136) rfl rfl rfl ?_
                            refine wp_goto (pc' := 140) rfl rfl ?_
                            refine wp_ret rfl rfl rfl ?_
                            first
                            | (exfalso; omega)
                            | (refine ⟨congrArg (fun z => some (vI z)) ?_, rfl, hI⟩
                               first
                               | rfl
                               | (unfold sNorth at *; rw [m0, hhi.2.1, b11] at *; (repeat' split at *) <;> omega)
                               | (rw [b10, b11, b12, m0, m1]
                                  refine sumI_congr (fun j a b => ?_)
                                  unfold fSil
                                  rw [fVote_congr (K := w 107) (H := fun i => w 109 (3 + i)) (K' := w 4) (H' := w 5) (hpr.2.2.2.2 j a b).1 (hpr.2.2.2.2 j a b).2.1])
                               | (rw [b11, b12, hhi.1, hhi.2.1])
                               | (split <;> omega)
                               | omega)
                        refine wp_swE (2) (pt := 141) rfl (by decide) rfl rfl (fun q_130 => ?_) (fun q_130 => ?_)
                        · skip
                          exfalso; omega
                        refine wp_swE (3) (pt := 144) rfl (by decide) rfl rfl (fun q_131 => ?_) (fun q_131 => ?_)
                        · skip
                          exfalso; omega
                        refine wp_swE (4) (pt := 150) rfl (by decide) rfl rfl (fun q_132 => ?_) (fun q_132 => ?_)
                        · skip
                          exfalso; omega
                        refine wp_swOut (pc' := 181) rfl (by omega) rfl ?_
                        exfalso; omega
                      · skip
                        refine wp_iload_n (pc' := 42) rfl rfl rfl ?_
                        refine wp_iconst (a := 3) (pc' := 43) rfl rfl rfl ?_
                        refine wp_icmp_ne (pc' := 46) (pt := 51) rfl rfl rfl (fun q_133 => ?_) (fun q_133 => ?_)
                        · skip
                          exfalso
                          (repeat' split at hof) <;> omega
                        · skip
                          refine wp_iload_n (pc' := 47) rfl rfl rfl ?_
                          refine wp_iconst (a := 5) (pc' := 48) rfl rfl rfl ?_
                          refine wp_icmp_eq (pc' := 51) (pt := 57) rfl rfl rfl (fun q_134 => ?_) (fun q_134 => ?_)
                          · skip
                            refine wp_aload_n (pc' := 58) rfl rfl rfl (by decide) ?_
                            refine wp_aload_n (pc' := 59) rfl rfl rfl (by decide) ?_
                            refine wp_getR (r' := 109) (ci := 10) (k0 := 15) (pc' := 62) rfl rfl (by decide) (by first | assumption | rfl) (hT.get 107 rfl) ?_
                            refine wp_iconst (a := 3) (pc' := 63) rfl rfl rfl ?_
                            refine wp_iload_n (pc' := 64) rfl rfl rfl ?_
                            refine wp_iadd (pc' := 65) rfl rfl (by first | exact w32_id (by omega) (by omega) | rfl) ?_
                            refine wp_iaload (pc' := 66) rfl rfl (by first | assumption | rfl) (by omega) ?_
                            refine wp_aload_n (pc' := 67) rfl rfl rfl (by decide) ?_
                            refine wp_getR (r' := 109) (ci := 10) (k0 := 15) (pc' := 70) rfl rfl (by decide) (by first | assumption | rfl) (hT.get 107 rfl) ?_
                            refine wp_iconst (a := 0) (pc' := 71) rfl rfl rfl ?_
                            refine wp_iaload (pc' := 72) rfl rfl (by first | assumption | rfl) (by omega) ?_
                            refine wp_call (pc' := 75) rfl rfl rfl rfl rfl ⟨Nat.le_of_ble_eq_true rfl, Nat.le_of_ble_eq_true rfl, Nat.le_of_ble_eq_true rfl, Nat.le_of_ble_eq_true rfl, Nat.le_of_ble_eq_true rfl⟩ rfl (c_Mod_far hpr.2.1.1 hxh hxm) ?_
                            intro v1 w9 hq1
                            rw [hq1.1, hq1.2]
                            clear hq1 v1 w9
                            rw [b11, m0, hhi.2.1, sFar_comm]
                            dsimp only [Option.toList, List.cons_append, List.nil_append, List.append_nil]
                            refine wp_istore (pc' := 77) rfl rfl (Nat.le_of_ble_eq_true rfl) rfl ?_
                            dsimp only [lset, lset2, List.set, List.getElem?_cons_zero, List.getElem?_cons_succ]
                            refine wp_iload_n (pc' := 78) rfl rfl rfl ?_
                            refine wp_swE (1) (pt := 108) rfl (by decide) rfl rfl (fun q_135 => ?_) (fun q_135 => ?_)
                            · skip
                              refine wp_aload_n (pc' := 109) rfl rfl rfl (by decide) ?_
                              refine wp_getR (r' := 109) (ci := 10) (k0 := 15) (pc' := 112) rfl rfl (by decide) (by first | assumption | rfl) (hT.get 107 rfl) ?_
                              refine wp_iconst (a := 0) (pc' := 113) rfl rfl rfl ?_
                              refine wp_iaload (pc' := 114) rfl rfl (by first | assumption | rfl) (by omega) ?_
                              refine wp_aload_n (pc' := 115) rfl rfl rfl (by decide) ?_
                              refine wp_getI (ci := 10) (k0 := 11) (pc' := 118) rfl rfl (by decide) (by first | assumption | rfl) ?_
                              refine wp_idiv (pc' := 119) rfl rfl (by omega) (by first | exact iDiv_pos (by omega) (by omega) (by omega) | rfl) ?_
                              refine wp_aload_n (pc' := 120) rfl rfl rfl (by decide) ?_
                              refine wp_getR (r' := 109) (ci := 10) (k0 := 15) (pc' := 123) rfl rfl (by decide) (by first | assumption | rfl) (hT.get 107 rfl) ?_
                              refine wp_iconst (a := 3) (pc' := 124) rfl rfl rfl ?_
                              refine wp_iload_n (pc' := 125) rfl rfl rfl ?_
                              refine wp_iadd (pc' := 126) rfl rfl (by first | exact w32_id (by omega) (by omega) | rfl) ?_
                              refine wp_iaload (pc' := 127) rfl rfl (by first | assumption | rfl) (by omega) ?_
                              refine wp_aload_n (pc' := 128) rfl rfl rfl (by decide) ?_
                              refine wp_getI (ci := 10) (k0 := 11) (pc' := 131) rfl rfl (by decide) (by first | assumption | rfl) ?_
                              refine wp_idiv (pc' := 132) rfl rfl (by omega) (by first | exact iDiv_pos (by omega) (by omega) (by omega) | rfl) ?_
                              refine wp_icmp_ge (pc' := 135) (pt := 139) rfl rfl rfl (fun q_136 => ?_) (fun q_136 => ?_)
                              · skip
                                refine wp_iconst (a := 0) (pc' := 140) rfl rfl rfl ?_
                                refine wp_ret rfl rfl rfl ?_
                                first
                                | (exfalso; omega)
                                | (refine ⟨congrArg (fun z => some (vI z)) ?_, rfl, hI⟩
                                   first
                                   | rfl
                                   | (unfold sNorth at *; rw [m0, hhi.2.1, b11] at *; (repeat' split at *) <;> omega)
                                   | (rw [b10, b11, b12, m0, m1]
                                      refine sumI_congr (fun j a b => ?_)
                                      unfold fSil
                                      rw [fVote_congr (K := w 107) (H := fun i => w 109 (3 + i)) (K' := w 4) (H' := w 5) (hpr.2.2.2.2 j a b).1 (hpr.2.2.2.2 j a b).2.1])
                                   | (rw [b11, b12, hhi.1, hhi.2.1])
                                   | (split <;> omega)
                                   | omega)
                              · skip
                                refine wp_iconst (a := 1) (pc' := 136) rfl rfl rfl ?_
                                refine wp_goto (pc' := 140) rfl rfl ?_
                                refine wp_ret rfl rfl rfl ?_
                                first
                                | (exfalso; omega)
                                | (refine ⟨congrArg (fun z => some (vI z)) ?_, rfl, hI⟩
                                   first
                                   | rfl
                                   | (unfold sNorth at *; rw [m0, hhi.2.1, b11] at *; (repeat' split at *) <;> omega)
                                   | (rw [b10, b11, b12, m0, m1]
                                      refine sumI_congr (fun j a b => ?_)
                                      unfold fSil
                                      rw [fVote_congr (K := w 107) (H := fun i => w 109 (3 + i)) (K' := w 4) (H' := w 5) (hpr.2.2.2.2 j a b).1 (hpr.2.2.2.2 j a b).2.1])
                                   | (rw [b11, b12, hhi.1, hhi.2.1])
                                   | (split <;> omega)
                                   | omega)
                            refine wp_swE (2) (pt := 141) rfl (by decide) rfl rfl (fun q_137 => ?_) (fun q_137 => ?_)
                            · skip
                              exfalso; omega
                            refine wp_swE (3) (pt := 144) rfl (by decide) rfl rfl (fun q_138 => ?_) (fun q_138 => ?_)
                            · skip
                              exfalso; omega
                            refine wp_swE (4) (pt := 150) rfl (by decide) rfl rfl (fun q_139 => ?_) (fun q_139 => ?_)
                            · skip
                              exfalso; omega
                            refine wp_swOut (pc' := 181) rfl (by omega) rfl ?_
                            exfalso; omega
                          · skip
                            exfalso
                            (repeat' split at hof) <;> omega
                · skip
                  rw [hv1, hw9]
                  clear hv1 hw9 v1 w9
                  dsimp only [Option.toList, List.cons_append, List.nil_append, List.append_nil]
                  refine wp_if_ne (pc' := 17) (pt := 19) rfl rfl rfl (fun q_140 => absurd q_140 (by decide)) (fun q_140 => ?_)
                  refine wp_iconst (a := -1) (pc' := 18) rfl rfl rfl ?_
                  refine wp_ret rfl rfl rfl ?_
                  first
                  | (exfalso; omega)
                  | (refine ⟨congrArg (fun z => some (vI z)) ?_, rfl, hI⟩
                     first
                     | rfl
                     | (unfold sNorth at *; rw [m0, hhi.2.1, b11] at *; (repeat' split at *) <;> omega)
                     | (rw [b10, b11, b12, m0, m1]
                        refine sumI_congr (fun j a b => ?_)
                        unfold fSil
                        rw [fVote_congr (K := w 107) (H := fun i => w 109 (3 + i)) (K' := w 4) (H' := w 5) (hpr.2.2.2.2 j a b).1 (hpr.2.2.2.2 j a b).2.1])
                     | (rw [b11, b12, hhi.1, hhi.2.1])
                     | (split <;> omega)
                     | omega)
              · skip
                rw [hv1, hw9]
                clear hv1 hw9 v1 w9
                dsimp only [Option.toList, List.cons_append, List.nil_append, List.append_nil]
                refine wp_if_eq (pc' := 8) (pt := 17) rfl rfl rfl (fun q_141 => ?_) (fun q_141 => absurd (by decide) q_141)
                refine wp_iconst (a := -1) (pc' := 18) rfl rfl rfl ?_
                refine wp_ret rfl rfl rfl ?_
                first
                | (exfalso; omega)
                | (refine ⟨congrArg (fun z => some (vI z)) ?_, rfl, hI⟩
                   first
                   | rfl
                   | (unfold sNorth at *; rw [m0, hhi.2.1, b11] at *; (repeat' split at *) <;> omega)
                   | (rw [b10, b11, b12, m0, m1]
                      refine sumI_congr (fun j a b => ?_)
                      unfold fSil
                      rw [fVote_congr (K := w 107) (H := fun i => w 109 (3 + i)) (K' := w 4) (H' := w 5) (hpr.2.2.2.2 j a b).1 (hpr.2.2.2.2 j a b).2.1])
                   | (rw [b11, b12, hhi.1, hhi.2.1])
                   | (split <;> omega)
                   | omega)
            · skip
              refine wp_iconst (a := 1) (pc' := 91) rfl rfl rfl ?_
              refine wp_goto (pc' := 95) rfl rfl ?_
              refine wp_ret rfl rfl rfl ?_
              refine ⟨_, rfl, ?_, ?_⟩
              · rfl
              refine wp_aload_n (pc' := 1) rfl rfl rfl (by decide) ?_
              refine wp_iload_n (pc' := 2) rfl rfl rfl ?_
              refine wp_call (pc' := 5) rfl rfl rfl rfl rfl ⟨Nat.le_of_ble_eq_true rfl, Nat.le_of_ble_eq_true rfl, Nat.le_of_ble_eq_true rfl, Nat.le_of_ble_eq_true rfl, Nat.le_of_ble_eq_true rfl⟩ rfl (c_Mod_isOne (by omega)) ?_
              rintro v1 w9 ⟨hw9, ⟨hv1, ho2⟩ | ⟨hv1, ho2⟩⟩
              · skip
                rw [hv1, hw9]
                clear hv1 hw9 v1 w9
                dsimp only [Option.toList, List.cons_append, List.nil_append, List.append_nil]
                refine wp_if_eq (pc' := 8) (pt := 17) rfl rfl rfl (fun q_192 => absurd q_192 (by decide)) (fun q_192 => ?_)
                refine wp_iload_n (pc' := 9) rfl rfl rfl ?_
                refine wp_iconst (a := 1) (pc' := 10) rfl rfl rfl ?_
                refine wp_iconst (a := 5) (pc' := 11) rfl rfl rfl ?_
                refine wp_call (pc' := 14) rfl rfl rfl rfl rfl ⟨Nat.le_of_ble_eq_true rfl, Nat.le_of_ble_eq_true rfl, Nat.le_of_ble_eq_true rfl, Nat.le_of_ble_eq_true rfl, Nat.le_of_ble_eq_true rfl⟩ rfl (c_Mod_in) ?_
                rintro v1 w9 ⟨hw9, ⟨hv1, hin⟩ | ⟨hv1, hin⟩⟩
                · skip
                  rw [hv1, hw9]
                  clear hv1 hw9 v1 w9
                  dsimp only [Option.toList, List.cons_append, List.nil_append, List.append_nil]
                  refine wp_if_ne (pc' := 17) (pt := 19) rfl rfl rfl (fun q_193 => ?_) (fun q_193 => absurd (by decide) q_193)
                  have hk4 : w 107 i = w 4 i := hhi.1
                  unfold sWider at hof
                  refine wp_aload_n (pc' := 20) rfl rfl rfl (by decide) ?_
                  refine wp_getR (r' := 107) (ci := 10) (k0 := 13) (pc' := 23) rfl rfl (by decide) (by first | assumption | rfl) (hT.get 105 rfl) ?_
                  refine wp_iload_n (pc' := 24) rfl rfl rfl ?_
                  refine wp_iaload (pc' := 25) rfl rfl (by first | assumption | rfl) (by omega) ?_
                  refine wp_istore_n (pc' := 26) rfl rfl (Nat.le_of_ble_eq_true rfl) rfl ?_
                  dsimp only [lset, lset2, List.set, List.getElem?_cons_zero, List.getElem?_cons_succ]
                  refine wp_iload_n (pc' := 27) rfl rfl rfl ?_
                  refine wp_iload_n (pc' := 28) rfl rfl rfl ?_
                  refine wp_icmp_eq (pc' := 31) (pt := 57) rfl rfl rfl (fun q_194 => ?_) (fun q_194 => ?_)
                  · skip
                    refine wp_aload_n (pc' := 58) rfl rfl rfl (by decide) ?_
                    refine wp_aload_n (pc' := 59) rfl rfl rfl (by decide) ?_
                    refine wp_getR (r' := 109) (ci := 10) (k0 := 15) (pc' := 62) rfl rfl (by decide) (by first | assumption | rfl) (hT.get 107 rfl) ?_
                    refine wp_iconst (a := 3) (pc' := 63) rfl rfl rfl ?_
                    refine wp_iload_n (pc' := 64) rfl rfl rfl ?_
                    refine wp_iadd (pc' := 65) rfl rfl (by first | exact w32_id (by omega) (by omega) | rfl) ?_
                    refine wp_iaload (pc' := 66) rfl rfl (by first | assumption | rfl) (by omega) ?_
                    refine wp_aload_n (pc' := 67) rfl rfl rfl (by decide) ?_
                    refine wp_getR (r' := 109) (ci := 10) (k0 := 15) (pc' := 70) rfl rfl (by decide) (by first | assumption | rfl) (hT.get 107 rfl) ?_
                    refine wp_iconst (a := 0) (pc' := 71) rfl rfl rfl ?_
                    refine wp_iaload (pc' := 72) rfl rfl (by first | assumption | rfl) (by omega) ?_
                    refine wp_call (pc' := 75) rfl rfl rfl rfl rfl ⟨Nat.le_of_ble_eq_true rfl, Nat.le_of_ble_eq_true rfl, Nat.le_of_ble_eq_true rfl, Nat.le_of_ble_eq_true rfl, Nat.le_of_ble_eq_true rfl⟩ rfl (c_Mod_far hpr.2.1.1 hxh hxm) ?_
                    intro v1 w9 hq1
                    rw [hq1.1, hq1.2]
                    clear hq1 v1 w9
                    rw [b11, m0, hhi.2.1, sFar_comm]
                    dsimp only [Option.toList, List.cons_append, List.nil_append, List.append_nil]
                    refine wp_istore (pc' := 77) rfl rfl (Nat.le_of_ble_eq_true rfl) rfl ?_
                    dsimp only [lset, lset2, List.set, List.getElem?_cons_zero, List.getElem?_cons_succ]
                    refine wp_iload_n (pc' := 78) rfl rfl rfl ?_
                    refine wp_swE (1) (pt := 108) rfl (by decide) rfl rfl (fun q_195 => ?_) (fun q_195 => ?_)
                    · skip
                      refine wp_aload_n (pc' := 109) rfl rfl rfl (by decide) ?_
                      refine wp_getR (r' := 109) (ci := 10) (k0 := 15) (pc' := 112) rfl rfl (by decide) (by first | assumption | rfl) (hT.get 107 rfl) ?_
                      refine wp_iconst (a := 0) (pc' := 113) rfl rfl rfl ?_
                      refine wp_iaload (pc' := 114) rfl rfl (by first | assumption | rfl) (by omega) ?_
                      refine wp_aload_n (pc' := 115) rfl rfl rfl (by decide) ?_
                      refine wp_getI (ci := 10) (k0 := 11) (pc' := 118) rfl rfl (by decide) (by first | assumption | rfl) ?_
                      refine wp_idiv (pc' := 119) rfl rfl (by omega) (by first | exact iDiv_pos (by omega) (by omega) (by omega) | rfl) ?_
                      refine wp_aload_n (pc' := 120) rfl rfl rfl (by decide) ?_
                      refine wp_getR (r' := 109) (ci := 10) (k0 := 15) (pc' := 123) rfl rfl (by decide) (by first | assumption | rfl) (hT.get 107 rfl) ?_
                      refine wp_iconst (a := 3) (pc' := 124) rfl rfl rfl ?_
                      refine wp_iload_n (pc' := 125) rfl rfl rfl ?_
                      refine wp_iadd (pc' := 126) rfl rfl (by first | exact w32_id (by omega) (by omega) | rfl) ?_
                      refine wp_iaload (pc' := 127) rfl rfl (by first | assumption | rfl) (by omega) ?_
                      refine wp_aload_n (pc' := 128) rfl rfl rfl (by decide) ?_
                      refine wp_getI (ci := 10) (k0 := 11) (pc' := 131) rfl rfl (by decide) (by first | assumption | rfl) ?_
                      refine wp_idiv (pc' := 132) rfl rfl (by omega) (by first | exact iDiv_pos (by omega) (by omega) (by omega) | rfl) ?_
                      refine wp_icmp_ge (pc' := 135) (pt := 139) rfl rfl rfl (fun q_196 => ?_) (fun q_196 => ?_)
                      · skip
                        refine wp_iconst (a := 0) (pc' := 140) rfl rfl rfl ?_
                        refine wp_ret rfl rfl rfl ?_
                        first
                        | (exfalso; omega)
                        | (refine ⟨congrArg (fun z => some (vI z)) ?_, rfl, hI⟩
                           first
                           | rfl
                           | (unfold sNorth at *; rw [m0, hhi.2.1, b11] at *; (repeat' split at *) <;> omega)
                           | (rw [b10, b11, b12, m0, m1]
                              refine sumI_congr (fun j a b => ?_)
                              unfold fSil
                              rw [fVote_congr (K := w 107) (H := fun i => w 109 (3 + i)) (K' := w 4) (H' := w 5) (hpr.2.2.2.2 j a b).1 (hpr.2.2.2.2 j a b).2.1])
                           | (rw [b11, b12, hhi.1, hhi.2.1])
                           | (split <;> omega)
                           | omega)
                      · skip
                        refine wp_iconst (a := 1) (pc' := 136) rfl rfl rfl ?_
                        refine wp_goto (pc' := 140) rfl rfl ?_
                        refine wp_ret rfl rfl rfl ?_
                        first
                        | (exfalso; omega)
                        | (refine ⟨congrArg (fun z => some (vI z)) ?_, rfl, hI⟩
                           first
                           | rfl
                           | (unfold sNorth at *; rw [m0, hhi.2.1, b11] at *; (repeat' split at *) <;> omega)
                           | (rw [b10, b11, b12, m0, m1]
                              refine sumI_congr (fun j a b => ?_)
                              unfold fSil
                              rw [fVote_congr (K := w 107) (H := fun i => w 109 (3 + i)) (K' := w 4) (H' := w 5) (hpr.2.2.2.2 j a b).1 (hpr.2.2.2.2 j a b).2.1])
                           | (rw [b11, b12, hhi.1, hhi.2.1])
                           | (split <;> omega)
                           | omega)
                    refine wp_swE (2) (pt := 141) rfl (by decide) rfl rfl (fun q_197 => ?_) (fun q_197 => ?_)
                    · skip
                      exfalso; omega
                    refine wp_swE (3) (pt := 144) rfl (by decide) rfl rfl (fun q_198 => ?_) (fun q_198 => ?_)
                    · skip
                      exfalso; omega
                    refine wp_swE (4) (pt := 150) rfl (by decide) rfl rfl (fun q_199 => ?_) (fun q_199 => ?_)
                    · skip
                      exfalso; omega
                    refine wp_swOut (pc' := 181) rfl (by omega) rfl ?_
                    exfalso; omega
                  · skip
                    refine wp_iload_n (pc' := 32) rfl rfl rfl ?_
                    refine wp_iconst (a := 2) (pc' := 33) rfl rfl rfl ?_
                    refine wp_icmp_ne (pc' := 36) (pt := 41) rfl rfl rfl (fun q_200 => ?_) (fun q_200 => ?_)
                    · skip
                      refine wp_iload_n (pc' := 42) rfl rfl rfl ?_
                      refine wp_iconst (a := 3) (pc' := 43) rfl rfl rfl ?_
                      refine wp_icmp_ne (pc' := 46) (pt := 51) rfl rfl rfl (fun q_201 => ?_) (fun q_201 => ?_)
                      · skip
                        exfalso
                        (repeat' split at hof) <;> omega
                      · skip
                        refine wp_iload_n (pc' := 47) rfl rfl rfl ?_
                        refine wp_iconst (a := 5) (pc' := 48) rfl rfl rfl ?_
                        refine wp_icmp_eq (pc' := 51) (pt := 57) rfl rfl rfl (fun q_202 => ?_) (fun q_202 => ?_)
                        · skip
                          refine wp_aload_n (pc' := 58) rfl rfl rfl (by decide) ?_
                          refine wp_aload_n (pc' := 59) rfl rfl rfl (by decide) ?_
                          refine wp_getR (r' := 109) (ci := 10) (k0 := 15) (pc' := 62) rfl rfl (by decide) (by first | assumption | rfl) (hT.get 107 rfl) ?_
                          refine wp_iconst (a := 3) (pc' := 63) rfl rfl rfl ?_
                          refine wp_iload_n (pc' := 64) rfl rfl rfl ?_
                          refine wp_iadd (pc' := 65) rfl rfl (by first | exact w32_id (by omega) (by omega) | rfl) ?_
                          refine wp_iaload (pc' := 66) rfl rfl (by first | assumption | rfl) (by omega) ?_
                          refine wp_aload_n (pc' := 67) rfl rfl rfl (by decide) ?_
                          refine wp_getR (r' := 109) (ci := 10) (k0 := 15) (pc' := 70) rfl rfl (by decide) (by first | assumption | rfl) (hT.get 107 rfl) ?_
                          refine wp_iconst (a := 0) (pc' := 71) rfl rfl rfl ?_
                          refine wp_iaload (pc' := 72) rfl rfl (by first | assumption | rfl) (by omega) ?_
                          refine wp_call (pc' := 75) rfl rfl rfl rfl rfl ⟨Nat.le_of_ble_eq_true rfl, Nat.le_of_ble_eq_true rfl, Nat.le_of_ble_eq_true rfl, Nat.le_of_ble_eq_true rfl, Nat.le_of_ble_eq_true rfl⟩ rfl (c_Mod_far hpr.2.1.1 hxh hxm) ?_
                          intro v1 w9 hq1
                          rw [hq1.1, hq1.2]
                          clear hq1 v1 w9
                          rw [b11, m0, hhi.2.1, sFar_comm]
                          dsimp only [Option.toList, List.cons_append, List.nil_append, List.append_nil]
                          refine wp_istore (pc' := 77) rfl rfl (Nat.le_of_ble_eq_true rfl) rfl ?_
                          dsimp only [lset, lset2, List.set, List.getElem?_cons_zero, List.getElem?_cons_succ]
                          refine wp_iload_n (pc' := 78) rfl rfl rfl ?_
                          refine wp_swE (1) (pt := 108) rfl (by decide) rfl rfl (fun q_203 => ?_) (fun q_203 => ?_)
                          · skip
                            refine wp_aload_n (pc' := 109) rfl rfl rfl (by decide) ?_
                            refine wp_getR (r' := 109) (ci := 10) (k0 := 15) (pc' := 112) rfl rfl (by decide) (by first | assumption | rfl) (hT.get 107 rfl) ?_
                            refine wp_iconst (a := 0) (pc' := 113) rfl rfl rfl ?_
                            refine wp_iaload (pc' := 114) rfl rfl (by first | assumption | rfl) (by omega) ?_
                            refine wp_aload_n (pc' := 115) rfl rfl rfl (by decide) ?_
                            refine wp_getI (ci := 10) (k0 := 11) (pc' := 118) rfl rfl (by decide) (by first | assumption | rfl) ?_
                            refine wp_idiv (pc' := 119) rfl rfl (by omega) (by first | exact iDiv_pos (by omega) (by omega) (by omega) | rfl) ?_
                            refine wp_aload_n (pc' := 120) rfl rfl rfl (by decide) ?_
                            refine wp_getR (r' := 109) (ci := 10) (k0 := 15) (pc' := 123) rfl rfl (by decide) (by first | assumption | rfl) (hT.get 107 rfl) ?_
                            refine wp_iconst (a := 3) (pc' := 124) rfl rfl rfl ?_
                            refine wp_iload_n (pc' := 125) rfl rfl rfl ?_
                            refine wp_iadd (pc' := 126) rfl rfl (by first | exact w32_id (by omega) (by omega) | rfl) ?_
                            refine wp_iaload (pc' := 127) rfl rfl (by first | assumption | rfl) (by omega) ?_
                            refine wp_aload_n (pc' := 128) rfl rfl rfl (by decide) ?_
                            refine wp_getI (ci := 10) (k0 := 11) (pc' := 131) rfl rfl (by decide) (by first | assumption | rfl) ?_
                            refine wp_idiv (pc' := 132) rfl rfl (by omega) (by first | exact iDiv_pos (by omega) (by omega) (by omega) | rfl) ?_
                            refine wp_icmp_ge (pc' := 135) (pt := 139) rfl rfl rfl (fun q_204 => ?_) (fun q_204 => ?_)
                            · skip
                              refine wp_iconst (a := 0) (pc' := 140) rfl rfl rfl ?_
                              refine wp_ret rfl rfl rfl ?_
                              first
                              | (exfalso; omega)
                              | (refine ⟨congrArg (fun z => some (vI z)) ?_, rfl, hI⟩
                                 first
                                 | rfl
                                 | (unfold sNorth at *; rw [m0, hhi.2.1, b11] at *; (repeat' split at *) <;> omega)
                                 | (rw [b10, b11, b12, m0, m1]
                                    refine sumI_congr (fun j a b => ?_)
                                    unfold fSil
                                    rw [fVote_congr (K := w 107) (H := fun i => w 109 (3 + i)) (K' := w 4) (H' := w 5) (hpr.2.2.2.2 j a b).1 (hpr.2.2.2.2 j a b).2.1])
                                 | (rw [b11, b12, hhi.1, hhi.2.1])
                                 | (split <;> omega)
                                 | omega)
                            · skip
                              refine wp_iconst (a := 1) (pc' := 136) rfl rfl rfl ?_
                              refine wp_goto (pc' := 140) rfl rfl ?_
                              refine wp_ret rfl rfl rfl ?_
                              first
                              | (exfalso; omega)
                              | (refine ⟨congrArg (fun z => some (vI z)) ?_, rfl, hI⟩
                                 first
                                 | rfl
                                 | (unfold sNorth at *; rw [m0, hhi.2.1, b11] at *; (repeat' split at *) <;> omega)
                                 | (rw [b10, b11, b12, m0, m1]
                                    refine sumI_congr (fun j a b => ?_)
                                    unfold fSil
                                    rw [fVote_congr (K := w 107) (H := fun i => w 109 (3 + i)) (K' := w 4) (H' := w 5) (hpr.2.2.2.2 j a b).1 (hpr.2.2.2.2 j a b).2.1])
                                 | (rw [b11, b12, hhi.1, hhi.2.1])
                                 | (split <;> omega)
                                 | omega)
                          refine wp_swE (2) (pt := 141) rfl (by decide) rfl rfl (fun q_205 => ?_) (fun q_205 => ?_)
                          · skip
                            exfalso; omega
                          refine wp_swE (3) (pt := 144) rfl (by decide) rfl rfl (fun q_206 => ?_) (fun q_206 => ?_)
                          · skip
                            exfalso; omega
                          refine wp_swE (4) (pt := 150) rfl (by decide) rfl rfl (fun q_207 => ?_) (fun q_207 => ?_)
                          · skip
                            exfalso; omega
                          refine wp_swOut (pc' := 181) rfl (by omega) rfl ?_
                          exfalso; omega
                        · skip
                          exfalso
                          (repeat' split at hof) <;> omega
                    · skip
                      refine wp_iload_n (pc' := 37) rfl rfl rfl ?_
                      refine wp_iconst (a := 4) (pc' := 38) rfl rfl rfl ?_
                      refine wp_icmp_eq (pc' := 41) (pt := 57) rfl rfl rfl (fun q_208 => ?_) (fun q_208 => ?_)
                      · skip
                        refine wp_aload_n (pc' := 58) rfl rfl rfl (by decide) ?_
                        refine wp_aload_n (pc' := 59) rfl rfl rfl (by decide) ?_
                        refine wp_getR (r' := 109) (ci := 10) (k0 := 15) (pc' := 62) rfl rfl (by decide) (by first | assumption | rfl) (hT.get 107 rfl) ?_
                        refine wp_iconst (a := 3) (pc' := 63) rfl rfl rfl ?_
                        refine wp_iload_n (pc' := 64) rfl rfl rfl ?_
                        refine wp_iadd (pc' := 65) rfl rfl (by first | exact w32_id (by omega) (by omega) | rfl) ?_
                        refine wp_iaload (pc' := 66) rfl rfl (by first | assumption | rfl) (by omega) ?_
                        refine wp_aload_n (pc' := 67) rfl rfl rfl (by decide) ?_
                        refine wp_getR (r' := 109) (ci := 10) (k0 := 15) (pc' := 70) rfl rfl (by decide) (by first | assumption | rfl) (hT.get 107 rfl) ?_
                        refine wp_iconst (a := 0) (pc' := 71) rfl rfl rfl ?_
                        refine wp_iaload (pc' := 72) rfl rfl (by first | assumption | rfl) (by omega) ?_
                        refine wp_call (pc' := 75) rfl rfl rfl rfl rfl ⟨Nat.le_of_ble_eq_true rfl, Nat.le_of_ble_eq_true rfl, Nat.le_of_ble_eq_true rfl, Nat.le_of_ble_eq_true rfl, Nat.le_of_ble_eq_true rfl⟩ rfl (c_Mod_far hpr.2.1.1 hxh hxm) ?_
                        intro v1 w9 hq1
                        rw [hq1.1, hq1.2]
                        clear hq1 v1 w9
                        rw [b11, m0, hhi.2.1, sFar_comm]
                        dsimp only [Option.toList, List.cons_append, List.nil_append, List.append_nil]
                        refine wp_istore (pc' := 77) rfl rfl (Nat.le_of_ble_eq_true rfl) rfl ?_
                        dsimp only [lset, lset2, List.set, List.getElem?_cons_zero, List.getElem?_cons_succ]
                        refine wp_iload_n (pc' := 78) rfl rfl rfl ?_
                        refine wp_swE (1) (pt := 108) rfl (by decide) rfl rfl (fun q_209 => ?_) (fun q_209 => ?_)
                        · skip
                          refine wp_aload_n (pc' := 109) rfl rfl rfl (by decide) ?_
                          refine wp_getR (r' := 109) (ci := 10) (k0 := 15) (pc' := 112) rfl rfl (by decide) (by first | assumption | rfl) (hT.get 107 rfl) ?_
                          refine wp_iconst (a := 0) (pc' := 113) rfl rfl rfl ?_
                          refine wp_iaload (pc' := 114) rfl rfl (by first | assumption | rfl) (by omega) ?_
                          refine wp_aload_n (pc' := 115) rfl rfl rfl (by decide) ?_
                          refine wp_getI (ci := 10) (k0 := 11) (pc' := 118) rfl rfl (by decide) (by first | assumption | rfl) ?_
                          refine wp_idiv (pc' := 119) rfl rfl (by omega) (by first | exact iDiv_pos (by omega) (by omega) (by omega) | rfl) ?_
                          refine wp_aload_n (pc' := 120) rfl rfl rfl (by decide) ?_
                          refine wp_getR (r' := 109) (ci := 10) (k0 := 15) (pc' := 123) rfl rfl (by decide) (by first | assumption | rfl) (hT.get 107 rfl) ?_
                          refine wp_iconst (a := 3) (pc' := 124) rfl rfl rfl ?_
                          refine wp_iload_n (pc' := 125) rfl rfl rfl ?_
                          refine wp_iadd (pc' := 126) rfl rfl (by first | exact w32_id (by omega) (by omega) | rfl) ?_
                          refine wp_iaload (pc' := 127) rfl rfl (by first | assumption | rfl) (by omega) ?_
                          refine wp_aload_n (pc' := 128) rfl rfl rfl (by decide) ?_
                          refine wp_getI (ci := 10) (k0 := 11) (pc' := 131) rfl rfl (by decide) (by first | assumption | rfl) ?_
                          refine wp_idiv (pc' := 132) rfl rfl (by omega) (by first | exact iDiv_pos (by omega) (by omega) (by omega) | rfl) ?_
                          refine wp_icmp_ge (pc' := 135) (pt := 139) rfl rfl rfl (fun q_210 => ?_) (fun q_210 => ?_)
                          · skip
                            refine wp_iconst (a := 0) (pc' := 140) rfl rfl rfl ?_
                            refine wp_ret rfl rfl rfl ?_
                            first
                            | (exfalso; omega)
                            | (refine ⟨congrArg (fun z => some (vI z)) ?_, rfl, hI⟩
                               first
                               | rfl
                               | (unfold sNorth at *; rw [m0, hhi.2.1, b11] at *; (repeat' split at *) <;> omega)
                               | (rw [b10, b11, b12, m0, m1]
                                  refine sumI_congr (fun j a b => ?_)
                                  unfold fSil
                                  rw [fVote_congr (K := w 107) (H := fun i => w 109 (3 + i)) (K' := w 4) (H' := w 5) (hpr.2.2.2.2 j a b).1 (hpr.2.2.2.2 j a b).2.1])
                               | (rw [b11, b12, hhi.1, hhi.2.1])
                               | (split <;> omega)
                               | omega)
                          · skip
                            refine wp_iconst (a := 1) (pc' := 136) rfl rfl rfl ?_
                            refine wp_goto (pc' := 140) rfl rfl ?_
                            refine wp_ret rfl rfl rfl ?_
                            first
                            | (exfalso; omega)
                            | (refine ⟨congrArg (fun z => some (vI z)) ?_, rfl, hI⟩
                               first
                               | rfl
                               | (unfold sNorth at *; rw [m0, hhi.2.1, b11] at *; (repeat' split at *) <;> omega)
                               | (rw [b10, b11, b12, m0, m1]
                                  refine sumI_congr (fun j a b => ?_)
                                  unfold fSil
                                  rw [fVote_congr (K := w 107) (H := fun i => w 109 (3 + i)) (K' := w 4) (H' := w 5) (hpr.2.2.2.2 j a b).1 (hpr.2.2.2.2 j a b).2.1])
                               | (rw [b11, b12, hhi.1, hhi.2.1])
                               | (split <;> omega)
                               | omega)
                        refine wp_swE (2) (pt := 141) rfl (by decide) rfl rfl (fun q_211 => ?_) (fun q_211 => ?_)
                        · skip
                          exfalso; omega
                        refine wp_swE (3) (pt := 144) rfl (by decide) rfl rfl (fun q_212 => ?_) (fun q_212 => ?_)
                        · skip
                          exfalso; omega
                        refine wp_swE (4) (pt := 150) rfl (by decide) rfl rfl (fun q_213 => ?_) (fun q_213 => ?_)
                        · skip
                          exfalso; omega
                        refine wp_swOut (pc' := 181) rfl (by omega) rfl ?_
                        exfalso; omega
                      · skip
                        refine wp_iload_n (pc' := 42) rfl rfl rfl ?_
                        refine wp_iconst (a := 3) (pc' := 43) rfl rfl rfl ?_
                        refine wp_icmp_ne (pc' := 46) (pt := 51) rfl rfl rfl (fun q_214 => ?_) (fun q_214 => ?_)
                        · skip
                          exfalso
                          (repeat' split at hof) <;> omega
                        · skip
                          refine wp_iload_n (pc' := 47) rfl rfl rfl ?_
                          refine wp_iconst (a := 5) (pc' := 48) rfl rfl rfl ?_
                          refine wp_icmp_eq (pc' := 51) (pt := 57) rfl rfl rfl (fun q_215 => ?_) (fun q_215 => ?_)
                          · skip
                            refine wp_aload_n (pc' := 58) rfl rfl rfl (by decide) ?_
                            refine wp_aload_n (pc' := 59) rfl rfl rfl (by decide) ?_
                            refine wp_getR (r' := 109) (ci := 10) (k0 := 15) (pc' := 62) rfl rfl (by decide) (by first | assumption | rfl) (hT.get 107 rfl) ?_
                            refine wp_iconst (a := 3) (pc' := 63) rfl rfl rfl ?_
                            refine wp_iload_n (pc' := 64) rfl rfl rfl ?_
                            refine wp_iadd (pc' := 65) rfl rfl (by first | exact w32_id (by omega) (by omega) | rfl) ?_
                            refine wp_iaload (pc' := 66) rfl rfl (by first | assumption | rfl) (by omega) ?_
                            refine wp_aload_n (pc' := 67) rfl rfl rfl (by decide) ?_
                            refine wp_getR (r' := 109) (ci := 10) (k0 := 15) (pc' := 70) rfl rfl (by decide) (by first | assumption | rfl) (hT.get 107 rfl) ?_
                            refine wp_iconst (a := 0) (pc' := 71) rfl rfl rfl ?_
                            refine wp_iaload (pc' := 72) rfl rfl (by first | assumption | rfl) (by omega) ?_
                            refine wp_call (pc' := 75) rfl rfl rfl rfl rfl ⟨Nat.le_of_ble_eq_true rfl, Nat.le_of_ble_eq_true rfl, Nat.le_of_ble_eq_true rfl, Nat.le_of_ble_eq_true rfl, Nat.le_of_ble_eq_true rfl⟩ rfl (c_Mod_far hpr.2.1.1 hxh hxm) ?_
                            intro v1 w9 hq1
                            rw [hq1.1, hq1.2]
                            clear hq1 v1 w9
                            rw [b11, m0, hhi.2.1, sFar_comm]
                            dsimp only [Option.toList, List.cons_append, List.nil_append, List.append_nil]
                            refine wp_istore (pc' := 77) rfl rfl (Nat.le_of_ble_eq_true rfl) rfl ?_
                            dsimp only [lset, lset2, List.set, List.getElem?_cons_zero, List.getElem?_cons_succ]
                            refine wp_iload_n (pc' := 78) rfl rfl rfl ?_
                            refine wp_swE (1) (pt := 108) rfl (by decide) rfl rfl (fun q_216 => ?_) (fun q_216 => ?_)
                            · skip
                              refine wp_aload_n (pc' := 109) rfl rfl rfl (by decide) ?_
                              refine wp_getR (r' := 109) (ci := 10) (k0 := 15) (pc' := 112) rfl rfl (by decide) (by first | assumption | rfl) (hT.get 107 rfl) ?_
                              refine wp_iconst (a := 0) (pc' := 113) rfl rfl rfl ?_
                              refine wp_iaload (pc' := 114) rfl rfl (by first | assumption | rfl) (by omega) ?_
                              refine wp_aload_n (pc' := 115) rfl rfl rfl (by decide) ?_
                              refine wp_getI (ci := 10) (k0 := 11) (pc' := 118) rfl rfl (by decide) (by first | assumption | rfl) ?_
                              refine wp_idiv (pc' := 119) rfl rfl (by omega) (by first | exact iDiv_pos (by omega) (by omega) (by omega) | rfl) ?_
                              refine wp_aload_n (pc' := 120) rfl rfl rfl (by decide) ?_
                              refine wp_getR (r' := 109) (ci := 10) (k0 := 15) (pc' := 123) rfl rfl (by decide) (by first | assumption | rfl) (hT.get 107 rfl) ?_
                              refine wp_iconst (a := 3) (pc' := 124) rfl rfl rfl ?_
                              refine wp_iload_n (pc' := 125) rfl rfl rfl ?_
                              refine wp_iadd (pc' := 126) rfl rfl (by first | exact w32_id (by omega) (by omega) | rfl) ?_
                              refine wp_iaload (pc' := 127) rfl rfl (by first | assumption | rfl) (by omega) ?_
                              refine wp_aload_n (pc' := 128) rfl rfl rfl (by decide) ?_
                              refine wp_getI (ci := 10) (k0 := 11) (pc' := 131) rfl rfl (by decide) (by first | assumption | rfl) ?_
                              refine wp_idiv (pc' := 132) rfl rfl (by omega) (by first | exact iDiv_pos (by omega) (by omega) (by omega) | rfl) ?_
                              refine wp_icmp_ge (pc' := 135) (pt := 139) rfl rfl rfl (fun q_217 => ?_) (fun q_217 => ?_)
                              · skip
                                refine wp_iconst (a := 0) (pc' := 140) rfl rfl rfl ?_
                                refine wp_ret rfl rfl rfl ?_
                                first
                                | (exfalso; omega)
                                | (refine ⟨congrArg (fun z => some (vI z)) ?_, rfl, hI⟩
                                   first
                                   | rfl
                                   | (unfold sNorth at *; rw [m0, hhi.2.1, b11] at *; (repeat' split at *) <;> omega)
                                   | (rw [b10, b11, b12, m0, m1]
                                      refine sumI_congr (fun j a b => ?_)
                                      unfold fSil
                                      rw [fVote_congr (K := w 107) (H := fun i => w 109 (3 + i)) (K' := w 4) (H' := w 5) (hpr.2.2.2.2 j a b).1 (hpr.2.2.2.2 j a b).2.1])
                                   | (rw [b11, b12, hhi.1, hhi.2.1])
                                   | (split <;> omega)
                                   | omega)
                              · skip
                                refine wp_iconst (a := 1) (pc' := 136) rfl rfl rfl ?_
                                refine wp_goto (pc' := 140) rfl rfl ?_
                                refine wp_ret rfl rfl rfl ?_
                                first
                                | (exfalso; omega)
                                | (refine ⟨congrArg (fun z => some (vI z)) ?_, rfl, hI⟩
                                   first
                                   | rfl
                                   | (unfold sNorth at *; rw [m0, hhi.2.1, b11] at *; (repeat' split at *) <;> omega)
                                   | (rw [b10, b11, b12, m0, m1]
                                      refine sumI_congr (fun j a b => ?_)
                                      unfold fSil
                                      rw [fVote_congr (K := w 107) (H := fun i => w 109 (3 + i)) (K' := w 4) (H' := w 5) (hpr.2.2.2.2 j a b).1 (hpr.2.2.2.2 j a b).2.1])
                                   | (rw [b11, b12, hhi.1, hhi.2.1])
                                   | (split <;> omega)
                                   | omega)
                            refine wp_swE (2) (pt := 141) rfl (by decide) rfl rfl (fun q_218 => ?_) (fun q_218 => ?_)
                            · skip
                              exfalso; omega
                            refine wp_swE (3) (pt := 144) rfl (by decide) rfl rfl (fun q_219 => ?_) (fun q_219 => ?_)
                            · skip
                              exfalso; omega
                            refine wp_swE (4) (pt := 150) rfl (by decide) rfl rfl (fun q_220 => ?_) (fun q_220 => ?_)
                            · skip
                              exfalso; omega
                            refine wp_swOut (pc' := 181) rfl (by omega) rfl ?_
                            exfalso; omega
                          · skip
                            exfalso
                            (repeat' split at hof) <;> omega
                · skip
                  rw [hv1, hw9]
                  clear hv1 hw9 v1 w9
                  dsimp only [Option.toList, List.cons_append, List.nil_append, List.append_nil]
                  refine wp_if_ne (pc' := 17) (pt := 19) rfl rfl rfl (fun q_221 => absurd q_221 (by decide)) (fun q_221 => ?_)
                  refine wp_iconst (a := -1) (pc' := 18) rfl rfl rfl ?_
                  refine wp_ret rfl rfl rfl ?_
                  first
                  | (exfalso; omega)
                  | (refine ⟨congrArg (fun z => some (vI z)) ?_, rfl, hI⟩
                     first
                     | rfl
                     | (unfold sNorth at *; rw [m0, hhi.2.1, b11] at *; (repeat' split at *) <;> omega)
                     | (rw [b10, b11, b12, m0, m1]
                        refine sumI_congr (fun j a b => ?_)
                        unfold fSil
                        rw [fVote_congr (K := w 107) (H := fun i => w 109 (3 + i)) (K' := w 4) (H' := w 5) (hpr.2.2.2.2 j a b).1 (hpr.2.2.2.2 j a b).2.1])
                     | (rw [b11, b12, hhi.1, hhi.2.1])
                     | (split <;> omega)
                     | omega)
              · skip
                rw [hv1, hw9]
                clear hv1 hw9 v1 w9
                dsimp only [Option.toList, List.cons_append, List.nil_append, List.append_nil]
                refine wp_if_eq (pc' := 8) (pt := 17) rfl rfl rfl (fun q_222 => ?_) (fun q_222 => absurd (by decide) q_222)
                refine wp_iconst (a := -1) (pc' := 18) rfl rfl rfl ?_
                refine wp_ret rfl rfl rfl ?_
                first
                | (exfalso; omega)
                | (refine ⟨congrArg (fun z => some (vI z)) ?_, rfl, hI⟩
                   first
                   | rfl
                   | (unfold sNorth at *; rw [m0, hhi.2.1, b11] at *; (repeat' split at *) <;> omega)
                   | (rw [b10, b11, b12, m0, m1]
                      refine sumI_congr (fun j a b => ?_)
                      unfold fSil
                      rw [fVote_congr (K := w 107) (H := fun i => w 109 (3 + i)) (K' := w 4) (H' := w 5) (hpr.2.2.2.2 j a b).1 (hpr.2.2.2.2 j a b).2.1])
                   | (rw [b11, b12, hhi.1, hhi.2.1])
                   | (split <;> omega)
                   | omega)
          refine wp_swE (2) (pt := 96) rfl (by decide) rfl rfl (fun q_223 => ?_) (fun q_223 => ?_)
          · skip
            refine wp_aload_n (pc' := 97) rfl rfl rfl (by decide) ?_
            refine wp_getR (r' := 3) (ci := 9) (k0 := 2) (pc' := 100) rfl rfl (by decide) (by first | assumption | rfl) (hT.get 2 rfl) ?_
            refine wp_aload_n (pc' := 101) rfl rfl rfl (by decide) ?_
            refine wp_getR (r' := 3) (ci := 9) (k0 := 2) (pc' := 104) rfl rfl (by decide) (by first | assumption | rfl) (hT.get 2 rfl) ?_
            refine wp_getI (ci := 3) (k0 := 3) (pc' := 107) rfl rfl (by decide) (by first | assumption | rfl) ?_
            refine wp_aload_n (pc' := 108) rfl rfl rfl (by decide) ?_
            refine wp_getR (r' := 3) (ci := 9) (k0 := 2) (pc' := 111) rfl rfl (by decide) (by first | assumption | rfl) (hT.get 2 rfl) ?_
            refine wp_getR (r' := 5) (ci := 3) (k0 := 8) (pc' := 114) rfl rfl (by decide) (by first | assumption | rfl) (hT.get 24 rfl) ?_
            refine wp_iload_n (pc' := 115) rfl rfl rfl ?_
            refine wp_iaload (pc' := 116) rfl rfl (by first | assumption | rfl) (by omega) ?_
            refine wp_call (pc' := 119) rfl rfl rfl rfl rfl ⟨Nat.le_of_ble_eq_true rfl, Nat.le_of_ble_eq_true rfl, Nat.le_of_ble_eq_true rfl, Nat.le_of_ble_eq_true rfl, Nat.le_of_ble_eq_true rfl⟩ rfl (c_Land_far hpr.1.1 hpr.2.2.1 hai.2.1) ?_
            intro v1 w9 hq1
            rw [hq1.1, hq1.2]
            clear hq1 v1 w9
            dsimp only [Option.toList, List.cons_append, List.nil_append, List.append_nil]
            refine wp_ret rfl rfl rfl ?_
            refine ⟨_, rfl, ?_, ?_⟩
            · rfl
            refine wp_aload_n (pc' := 1) rfl rfl rfl (by decide) ?_
            refine wp_iload_n (pc' := 2) rfl rfl rfl ?_
            refine wp_call (pc' := 5) rfl rfl rfl rfl rfl ⟨Nat.le_of_ble_eq_true rfl, Nat.le_of_ble_eq_true rfl, Nat.le_of_ble_eq_true rfl, Nat.le_of_ble_eq_true rfl, Nat.le_of_ble_eq_true rfl⟩ rfl (c_Mod_isOne (by omega)) ?_
            rintro v1 w9 ⟨hw9, ⟨hv1, ho2⟩ | ⟨hv1, ho2⟩⟩
            · skip
              rw [hv1, hw9]
              clear hv1 hw9 v1 w9
              dsimp only [Option.toList, List.cons_append, List.nil_append, List.append_nil]
              refine wp_if_eq (pc' := 8) (pt := 17) rfl rfl rfl (fun q_274 => absurd q_274 (by decide)) (fun q_274 => ?_)
              refine wp_iload_n (pc' := 9) rfl rfl rfl ?_
              refine wp_iconst (a := 1) (pc' := 10) rfl rfl rfl ?_
              refine wp_iconst (a := 5) (pc' := 11) rfl rfl rfl ?_
              refine wp_call (pc' := 14) rfl rfl rfl rfl rfl ⟨Nat.le_of_ble_eq_true rfl, Nat.le_of_ble_eq_true rfl, Nat.le_of_ble_eq_true rfl, Nat.le_of_ble_eq_true rfl, Nat.le_of_ble_eq_true rfl⟩ rfl (c_Mod_in) ?_
              rintro v1 w9 ⟨hw9, ⟨hv1, hin⟩ | ⟨hv1, hin⟩⟩
              · skip
                rw [hv1, hw9]
                clear hv1 hw9 v1 w9
                dsimp only [Option.toList, List.cons_append, List.nil_append, List.append_nil]
                refine wp_if_ne (pc' := 17) (pt := 19) rfl rfl rfl (fun q_275 => ?_) (fun q_275 => absurd (by decide) q_275)
                have hk4 : w 107 i = w 4 i := hhi.1
                unfold sWider at hof
                refine wp_aload_n (pc' := 20) rfl rfl rfl (by decide) ?_
                refine wp_getR (r' := 107) (ci := 10) (k0 := 13) (pc' := 23) rfl rfl (by decide) (by first | assumption | rfl) (hT.get 105 rfl) ?_
                refine wp_iload_n (pc' := 24) rfl rfl rfl ?_
                refine wp_iaload (pc' := 25) rfl rfl (by first | assumption | rfl) (by omega) ?_
                refine wp_istore_n (pc' := 26) rfl rfl (Nat.le_of_ble_eq_true rfl) rfl ?_
                dsimp only [lset, lset2, List.set, List.getElem?_cons_zero, List.getElem?_cons_succ]
                refine wp_iload_n (pc' := 27) rfl rfl rfl ?_
                refine wp_iload_n (pc' := 28) rfl rfl rfl ?_
                refine wp_icmp_eq (pc' := 31) (pt := 57) rfl rfl rfl (fun q_276 => ?_) (fun q_276 => ?_)
                · skip
                  refine wp_aload_n (pc' := 58) rfl rfl rfl (by decide) ?_
                  refine wp_aload_n (pc' := 59) rfl rfl rfl (by decide) ?_
                  refine wp_getR (r' := 109) (ci := 10) (k0 := 15) (pc' := 62) rfl rfl (by decide) (by first | assumption | rfl) (hT.get 107 rfl) ?_
                  refine wp_iconst (a := 3) (pc' := 63) rfl rfl rfl ?_
                  refine wp_iload_n (pc' := 64) rfl rfl rfl ?_
                  refine wp_iadd (pc' := 65) rfl rfl (by first | exact w32_id (by omega) (by omega) | rfl) ?_
                  refine wp_iaload (pc' := 66) rfl rfl (by first | assumption | rfl) (by omega) ?_
                  refine wp_aload_n (pc' := 67) rfl rfl rfl (by decide) ?_
                  refine wp_getR (r' := 109) (ci := 10) (k0 := 15) (pc' := 70) rfl rfl (by decide) (by first | assumption | rfl) (hT.get 107 rfl) ?_
                  refine wp_iconst (a := 0) (pc' := 71) rfl rfl rfl ?_
                  refine wp_iaload (pc' := 72) rfl rfl (by first | assumption | rfl) (by omega) ?_
                  refine wp_call (pc' := 75) rfl rfl rfl rfl rfl ⟨Nat.le_of_ble_eq_true rfl, Nat.le_of_ble_eq_true rfl, Nat.le_of_ble_eq_true rfl, Nat.le_of_ble_eq_true rfl, Nat.le_of_ble_eq_true rfl⟩ rfl (c_Mod_far hpr.2.1.1 hxh hxm) ?_
                  intro v1 w9 hq1
                  rw [hq1.1, hq1.2]
                  clear hq1 v1 w9
                  rw [b11, m0, hhi.2.1, sFar_comm]
                  dsimp only [Option.toList, List.cons_append, List.nil_append, List.append_nil]
                  refine wp_istore (pc' := 77) rfl rfl (Nat.le_of_ble_eq_true rfl) rfl ?_
                  dsimp only [lset, lset2, List.set, List.getElem?_cons_zero, List.getElem?_cons_succ]
                  refine wp_iload_n (pc' := 78) rfl rfl rfl ?_
                  refine wp_swE (1) (pt := 108) rfl (by decide) rfl rfl (fun q_277 => ?_) (fun q_277 => ?_)
                  · skip
                    exfalso; omega
                  refine wp_swE (2) (pt := 141) rfl (by decide) rfl rfl (fun q_278 => ?_) (fun q_278 => ?_)
                  · skip
                    refine wp_iload (pc' := 143) rfl rfl rfl ?_
                    refine wp_ret rfl rfl rfl ?_
                    first
                    | (exfalso; omega)
                    | (refine ⟨congrArg (fun z => some (vI z)) ?_, rfl, hI⟩
                       first
                       | rfl
                       | (unfold sNorth at *; rw [m0, hhi.2.1, b11] at *; (repeat' split at *) <;> omega)
                       | (rw [b10, b11, b12, m0, m1]
                          refine sumI_congr (fun j a b => ?_)
                          unfold fSil
                          rw [fVote_congr (K := w 107) (H := fun i => w 109 (3 + i)) (K' := w 4) (H' := w 5) (hpr.2.2.2.2 j a b).1 (hpr.2.2.2.2 j a b).2.1])
                       | (rw [b11, b12, hhi.1, hhi.2.1])
                       | (split <;> omega)
                       | omega)
                  refine wp_swE (3) (pt := 144) rfl (by decide) rfl rfl (fun q_279 => ?_) (fun q_279 => ?_)
                  · skip
                    exfalso; omega
                  refine wp_swE (4) (pt := 150) rfl (by decide) rfl rfl (fun q_280 => ?_) (fun q_280 => ?_)
                  · skip
                    exfalso; omega
                  refine wp_swOut (pc' := 181) rfl (by omega) rfl ?_
                  exfalso; omega
                · skip
                  refine wp_iload_n (pc' := 32) rfl rfl rfl ?_
                  refine wp_iconst (a := 2) (pc' := 33) rfl rfl rfl ?_
                  refine wp_icmp_ne (pc' := 36) (pt := 41) rfl rfl rfl (fun q_281 => ?_) (fun q_281 => ?_)
                  · skip
                    refine wp_iload_n (pc' := 42) rfl rfl rfl ?_
                    refine wp_iconst (a := 3) (pc' := 43) rfl rfl rfl ?_
                    refine wp_icmp_ne (pc' := 46) (pt := 51) rfl rfl rfl (fun q_282 => ?_) (fun q_282 => ?_)
                    · skip
                      exfalso
                      (repeat' split at hof) <;> omega
                    · skip
                      refine wp_iload_n (pc' := 47) rfl rfl rfl ?_
                      refine wp_iconst (a := 5) (pc' := 48) rfl rfl rfl ?_
                      refine wp_icmp_eq (pc' := 51) (pt := 57) rfl rfl rfl (fun q_283 => ?_) (fun q_283 => ?_)
                      · skip
                        refine wp_aload_n (pc' := 58) rfl rfl rfl (by decide) ?_
                        refine wp_aload_n (pc' := 59) rfl rfl rfl (by decide) ?_
                        refine wp_getR (r' := 109) (ci := 10) (k0 := 15) (pc' := 62) rfl rfl (by decide) (by first | assumption | rfl) (hT.get 107 rfl) ?_
                        refine wp_iconst (a := 3) (pc' := 63) rfl rfl rfl ?_
                        refine wp_iload_n (pc' := 64) rfl rfl rfl ?_
                        refine wp_iadd (pc' := 65) rfl rfl (by first | exact w32_id (by omega) (by omega) | rfl) ?_
                        refine wp_iaload (pc' := 66) rfl rfl (by first | assumption | rfl) (by omega) ?_
                        refine wp_aload_n (pc' := 67) rfl rfl rfl (by decide) ?_
                        refine wp_getR (r' := 109) (ci := 10) (k0 := 15) (pc' := 70) rfl rfl (by decide) (by first | assumption | rfl) (hT.get 107 rfl) ?_
                        refine wp_iconst (a := 0) (pc' := 71) rfl rfl rfl ?_
                        refine wp_iaload (pc' := 72) rfl rfl (by first | assumption | rfl) (by omega) ?_
                        refine wp_call (pc' := 75) rfl rfl rfl rfl rfl ⟨Nat.le_of_ble_eq_true rfl, Nat.le_of_ble_eq_true rfl, Nat.le_of_ble_eq_true rfl, Nat.le_of_ble_eq_true rfl, Nat.le_of_ble_eq_true rfl⟩ rfl (c_Mod_far hpr.2.1.1 hxh hxm) ?_
                        intro v1 w9 hq1
                        rw [hq1.1, hq1.2]
                        clear hq1 v1 w9
                        rw [b11, m0, hhi.2.1, sFar_comm]
                        dsimp only [Option.toList, List.cons_append, List.nil_append, List.append_nil]
                        refine wp_istore (pc' := 77) rfl rfl (Nat.le_of_ble_eq_true rfl) rfl ?_
                        dsimp only [lset, lset2, List.set, List.getElem?_cons_zero, List.getElem?_cons_succ]
                        refine wp_iload_n (pc' := 78) rfl rfl rfl ?_
                        refine wp_swE (1) (pt := 108) rfl (by decide) rfl rfl (fun q_284 => ?_) (fun q_284 => ?_)
                        · skip
                          exfalso; omega
                        refine wp_swE (2) (pt := 141) rfl (by decide) rfl rfl (fun q_285 => ?_) (fun q_285 => ?_)
                        · skip
                          refine wp_iload (pc' := 143) rfl rfl rfl ?_
                          refine wp_ret rfl rfl rfl ?_
                          first
                          | (exfalso; omega)
                          | (refine ⟨congrArg (fun z => some (vI z)) ?_, rfl, hI⟩
                             first
                             | rfl
                             | (unfold sNorth at *; rw [m0, hhi.2.1, b11] at *; (repeat' split at *) <;> omega)
                             | (rw [b10, b11, b12, m0, m1]
                                refine sumI_congr (fun j a b => ?_)
                                unfold fSil
                                rw [fVote_congr (K := w 107) (H := fun i => w 109 (3 + i)) (K' := w 4) (H' := w 5) (hpr.2.2.2.2 j a b).1 (hpr.2.2.2.2 j a b).2.1])
                             | (rw [b11, b12, hhi.1, hhi.2.1])
                             | (split <;> omega)
                             | omega)
                        refine wp_swE (3) (pt := 144) rfl (by decide) rfl rfl (fun q_286 => ?_) (fun q_286 => ?_)
                        · skip
                          exfalso; omega
                        refine wp_swE (4) (pt := 150) rfl (by decide) rfl rfl (fun q_287 => ?_) (fun q_287 => ?_)
                        · skip
                          exfalso; omega
                        refine wp_swOut (pc' := 181) rfl (by omega) rfl ?_
                        exfalso; omega
                      · skip
                        exfalso
                        (repeat' split at hof) <;> omega
                  · skip
                    refine wp_iload_n (pc' := 37) rfl rfl rfl ?_
                    refine wp_iconst (a := 4) (pc' := 38) rfl rfl rfl ?_
                    refine wp_icmp_eq (pc' := 41) (pt := 57) rfl rfl rfl (fun q_288 => ?_) (fun q_288 => ?_)
                    · skip
                      refine wp_aload_n (pc' := 58) rfl rfl rfl (by decide) ?_
                      refine wp_aload_n (pc' := 59) rfl rfl rfl (by decide) ?_
                      refine wp_getR (r' := 109) (ci := 10) (k0 := 15) (pc' := 62) rfl rfl (by decide) (by first | assumption | rfl) (hT.get 107 rfl) ?_
                      refine wp_iconst (a := 3) (pc' := 63) rfl rfl rfl ?_
                      refine wp_iload_n (pc' := 64) rfl rfl rfl ?_
                      refine wp_iadd (pc' := 65) rfl rfl (by first | exact w32_id (by omega) (by omega) | rfl) ?_
                      refine wp_iaload (pc' := 66) rfl rfl (by first | assumption | rfl) (by omega) ?_
                      refine wp_aload_n (pc' := 67) rfl rfl rfl (by decide) ?_
                      refine wp_getR (r' := 109) (ci := 10) (k0 := 15) (pc' := 70) rfl rfl (by decide) (by first | assumption | rfl) (hT.get 107 rfl) ?_
                      refine wp_iconst (a := 0) (pc' := 71) rfl rfl rfl ?_
                      refine wp_iaload (pc' := 72) rfl rfl (by first | assumption | rfl) (by omega) ?_
                      refine wp_call (pc' := 75) rfl rfl rfl rfl rfl ⟨Nat.le_of_ble_eq_true rfl, Nat.le_of_ble_eq_true rfl, Nat.le_of_ble_eq_true rfl, Nat.le_of_ble_eq_true rfl, Nat.le_of_ble_eq_true rfl⟩ rfl (c_Mod_far hpr.2.1.1 hxh hxm) ?_
                      intro v1 w9 hq1
                      rw [hq1.1, hq1.2]
                      clear hq1 v1 w9
                      rw [b11, m0, hhi.2.1, sFar_comm]
                      dsimp only [Option.toList, List.cons_append, List.nil_append, List.append_nil]
                      refine wp_istore (pc' := 77) rfl rfl (Nat.le_of_ble_eq_true rfl) rfl ?_
                      dsimp only [lset, lset2, List.set, List.getElem?_cons_zero, List.getElem?_cons_succ]
                      refine wp_iload_n (pc' := 78) rfl rfl rfl ?_
                      refine wp_swE (1) (pt := 108) rfl (by decide) rfl rfl (fun q_289 => ?_) (fun q_289 => ?_)
                      · skip
                        exfalso; omega
                      refine wp_swE (2) (pt := 141) rfl (by decide) rfl rfl (fun q_290 => ?_) (fun q_290 => ?_)
                      · skip
                        refine wp_iload (pc' := 143) rfl rfl rfl ?_
                        refine wp_ret rfl rfl rfl ?_
                        first
                        | (exfalso; omega)
                        | (refine ⟨congrArg (fun z => some (vI z)) ?_, rfl, hI⟩
                           first
                           | rfl
                           | (unfold sNorth at *; rw [m0, hhi.2.1, b11] at *; (repeat' split at *) <;> omega)
                           | (rw [b10, b11, b12, m0, m1]
                              refine sumI_congr (fun j a b => ?_)
                              unfold fSil
                              rw [fVote_congr (K := w 107) (H := fun i => w 109 (3 + i)) (K' := w 4) (H' := w 5) (hpr.2.2.2.2 j a b).1 (hpr.2.2.2.2 j a b).2.1])
                           | (rw [b11, b12, hhi.1, hhi.2.1])
                           | (split <;> omega)
                           | omega)
                      refine wp_swE (3) (pt := 144) rfl (by decide) rfl rfl (fun q_291 => ?_) (fun q_291 => ?_)
                      · skip
                        exfalso; omega
                      refine wp_swE (4) (pt := 150) rfl (by decide) rfl rfl (fun q_292 => ?_) (fun q_292 => ?_)
                      · skip
                        exfalso; omega
                      refine wp_swOut (pc' := 181) rfl (by omega) rfl ?_
                      exfalso; omega
                    · skip
                      refine wp_iload_n (pc' := 42) rfl rfl rfl ?_
                      refine wp_iconst (a := 3) (pc' := 43) rfl rfl rfl ?_
                      refine wp_icmp_ne (pc' := 46) (pt := 51) rfl rfl rfl (fun q_293 => ?_) (fun q_293 => ?_)
                      · skip
                        exfalso
                        (repeat' split at hof) <;> omega
                      · skip
                        refine wp_iload_n (pc' := 47) rfl rfl rfl ?_
                        refine wp_iconst (a := 5) (pc' := 48) rfl rfl rfl ?_
                        refine wp_icmp_eq (pc' := 51) (pt := 57) rfl rfl rfl (fun q_294 => ?_) (fun q_294 => ?_)
                        · skip
                          refine wp_aload_n (pc' := 58) rfl rfl rfl (by decide) ?_
                          refine wp_aload_n (pc' := 59) rfl rfl rfl (by decide) ?_
                          refine wp_getR (r' := 109) (ci := 10) (k0 := 15) (pc' := 62) rfl rfl (by decide) (by first | assumption | rfl) (hT.get 107 rfl) ?_
                          refine wp_iconst (a := 3) (pc' := 63) rfl rfl rfl ?_
                          refine wp_iload_n (pc' := 64) rfl rfl rfl ?_
                          refine wp_iadd (pc' := 65) rfl rfl (by first | exact w32_id (by omega) (by omega) | rfl) ?_
                          refine wp_iaload (pc' := 66) rfl rfl (by first | assumption | rfl) (by omega) ?_
                          refine wp_aload_n (pc' := 67) rfl rfl rfl (by decide) ?_
                          refine wp_getR (r' := 109) (ci := 10) (k0 := 15) (pc' := 70) rfl rfl (by decide) (by first | assumption | rfl) (hT.get 107 rfl) ?_
                          refine wp_iconst (a := 0) (pc' := 71) rfl rfl rfl ?_
                          refine wp_iaload (pc' := 72) rfl rfl (by first | assumption | rfl) (by omega) ?_
                          refine wp_call (pc' := 75) rfl rfl rfl rfl rfl ⟨Nat.le_of_ble_eq_true rfl, Nat.le_of_ble_eq_true rfl, Nat.le_of_ble_eq_true rfl, Nat.le_of_ble_eq_true rfl, Nat.le_of_ble_eq_true rfl⟩ rfl (c_Mod_far hpr.2.1.1 hxh hxm) ?_
                          intro v1 w9 hq1
                          rw [hq1.1, hq1.2]
                          clear hq1 v1 w9
                          rw [b11, m0, hhi.2.1, sFar_comm]
                          dsimp only [Option.toList, List.cons_append, List.nil_append, List.append_nil]
                          refine wp_istore (pc' := 77) rfl rfl (Nat.le_of_ble_eq_true rfl) rfl ?_
                          dsimp only [lset, lset2, List.set, List.getElem?_cons_zero, List.getElem?_cons_succ]
                          refine wp_iload_n (pc' := 78) rfl rfl rfl ?_
                          refine wp_swE (1) (pt := 108) rfl (by decide) rfl rfl (fun q_295 => ?_) (fun q_295 => ?_)
                          · skip
                            exfalso; omega
                          refine wp_swE (2) (pt := 141) rfl (by decide) rfl rfl (fun q_296 => ?_) (fun q_296 => ?_)
                          · skip
                            refine wp_iload (pc' := 143) rfl rfl rfl ?_
                            refine wp_ret rfl rfl rfl ?_
                            first
                            | (exfalso; omega)
                            | (refine ⟨congrArg (fun z => some (vI z)) ?_, rfl, hI⟩
                               first
                               | rfl
                               | (unfold sNorth at *; rw [m0, hhi.2.1, b11] at *; (repeat' split at *) <;> omega)
                               | (rw [b10, b11, b12, m0, m1]
                                  refine sumI_congr (fun j a b => ?_)
                                  unfold fSil
                                  rw [fVote_congr (K := w 107) (H := fun i => w 109 (3 + i)) (K' := w 4) (H' := w 5) (hpr.2.2.2.2 j a b).1 (hpr.2.2.2.2 j a b).2.1])
                               | (rw [b11, b12, hhi.1, hhi.2.1])
                               | (split <;> omega)
                               | omega)
                          refine wp_swE (3) (pt := 144) rfl (by decide) rfl rfl (fun q_297 => ?_) (fun q_297 => ?_)
                          · skip
                            exfalso; omega
                          refine wp_swE (4) (pt := 150) rfl (by decide) rfl rfl (fun q_298 => ?_) (fun q_298 => ?_)
                          · skip
                            exfalso; omega
                          refine wp_swOut (pc' := 181) rfl (by omega) rfl ?_
                          exfalso; omega
                        · skip
                          exfalso
                          (repeat' split at hof) <;> omega
              · skip
                rw [hv1, hw9]
                clear hv1 hw9 v1 w9
                dsimp only [Option.toList, List.cons_append, List.nil_append, List.append_nil]
                refine wp_if_ne (pc' := 17) (pt := 19) rfl rfl rfl (fun q_299 => absurd q_299 (by decide)) (fun q_299 => ?_)
                refine wp_iconst (a := -1) (pc' := 18) rfl rfl rfl ?_
                refine wp_ret rfl rfl rfl ?_
                first
                | (exfalso; omega)
                | (refine ⟨congrArg (fun z => some (vI z)) ?_, rfl, hI⟩
                   first
                   | rfl
                   | (unfold sNorth at *; rw [m0, hhi.2.1, b11] at *; (repeat' split at *) <;> omega)
                   | (rw [b10, b11, b12, m0, m1]
                      refine sumI_congr (fun j a b => ?_)
                      unfold fSil
                      rw [fVote_congr (K := w 107) (H := fun i => w 109 (3 + i)) (K' := w 4) (H' := w 5) (hpr.2.2.2.2 j a b).1 (hpr.2.2.2.2 j a b).2.1])
                   | (rw [b11, b12, hhi.1, hhi.2.1])
                   | (split <;> omega)
                   | omega)
            · skip
              rw [hv1, hw9]
              clear hv1 hw9 v1 w9
              dsimp only [Option.toList, List.cons_append, List.nil_append, List.append_nil]
              refine wp_if_eq (pc' := 8) (pt := 17) rfl rfl rfl (fun q_300 => ?_) (fun q_300 => absurd (by decide) q_300)
              refine wp_iconst (a := -1) (pc' := 18) rfl rfl rfl ?_
              refine wp_ret rfl rfl rfl ?_
              first
              | (exfalso; omega)
              | (refine ⟨congrArg (fun z => some (vI z)) ?_, rfl, hI⟩
                 first
                 | rfl
                 | (unfold sNorth at *; rw [m0, hhi.2.1, b11] at *; (repeat' split at *) <;> omega)
                 | (rw [b10, b11, b12, m0, m1]
                    refine sumI_congr (fun j a b => ?_)
                    unfold fSil
                    rw [fVote_congr (K := w 107) (H := fun i => w 109 (3 + i)) (K' := w 4) (H' := w 5) (hpr.2.2.2.2 j a b).1 (hpr.2.2.2.2 j a b).2.1])
                 | (rw [b11, b12, hhi.1, hhi.2.1])
                 | (split <;> omega)
                 | omega)
          refine wp_swE (3) (pt := 120) rfl (by decide) rfl rfl (fun q_301 => ?_) (fun q_301 => ?_)
          · skip
            refine wp_aload_n (pc' := 121) rfl rfl rfl (by decide) ?_
            refine wp_iload_n (pc' := 122) rfl rfl rfl ?_
            refine wp_call (pc' := 125) rfl rfl rfl rfl rfl ⟨Nat.le_of_ble_eq_true rfl, Nat.le_of_ble_eq_true rfl, Nat.le_of_ble_eq_true rfl, Nat.le_of_ble_eq_true rfl, Nat.le_of_ble_eq_true rfl⟩ rfl (c_VH_abst hT hRO hpr) ?_
            intro v1 w9 hq1
            rw [hq1.1, hq1.2]
            clear hq1 v1 w9
            dsimp only [Option.toList, List.cons_append, List.nil_append, List.append_nil]
            refine wp_ret rfl rfl rfl ?_
            refine ⟨_, rfl, ?_, ?_⟩
            · rfl
            refine wp_aload_n (pc' := 1) rfl rfl rfl (by decide) ?_
            refine wp_iload_n (pc' := 2) rfl rfl rfl ?_
            refine wp_call (pc' := 5) rfl rfl rfl rfl rfl ⟨Nat.le_of_ble_eq_true rfl, Nat.le_of_ble_eq_true rfl, Nat.le_of_ble_eq_true rfl, Nat.le_of_ble_eq_true rfl, Nat.le_of_ble_eq_true rfl⟩ rfl (c_Mod_isOne (by omega)) ?_
            rintro v1 w9 ⟨hw9, ⟨hv1, ho2⟩ | ⟨hv1, ho2⟩⟩
            · skip
              rw [hv1, hw9]
              clear hv1 hw9 v1 w9
              dsimp only [Option.toList, List.cons_append, List.nil_append, List.append_nil]
              refine wp_if_eq (pc' := 8) (pt := 17) rfl rfl rfl (fun q_352 => absurd q_352 (by decide)) (fun q_352 => ?_)
              refine wp_iload_n (pc' := 9) rfl rfl rfl ?_
              refine wp_iconst (a := 1) (pc' := 10) rfl rfl rfl ?_
              refine wp_iconst (a := 5) (pc' := 11) rfl rfl rfl ?_
              refine wp_call (pc' := 14) rfl rfl rfl rfl rfl ⟨Nat.le_of_ble_eq_true rfl, Nat.le_of_ble_eq_true rfl, Nat.le_of_ble_eq_true rfl, Nat.le_of_ble_eq_true rfl, Nat.le_of_ble_eq_true rfl⟩ rfl (c_Mod_in) ?_
              rintro v1 w9 ⟨hw9, ⟨hv1, hin⟩ | ⟨hv1, hin⟩⟩
              · skip
                rw [hv1, hw9]
                clear hv1 hw9 v1 w9
                dsimp only [Option.toList, List.cons_append, List.nil_append, List.append_nil]
                refine wp_if_ne (pc' := 17) (pt := 19) rfl rfl rfl (fun q_353 => ?_) (fun q_353 => absurd (by decide) q_353)
                have hk4 : w 107 i = w 4 i := hhi.1
                unfold sWider at hof
                refine wp_aload_n (pc' := 20) rfl rfl rfl (by decide) ?_
                refine wp_getR (r' := 107) (ci := 10) (k0 := 13) (pc' := 23) rfl rfl (by decide) (by first | assumption | rfl) (hT.get 105 rfl) ?_
                refine wp_iload_n (pc' := 24) rfl rfl rfl ?_
                refine wp_iaload (pc' := 25) rfl rfl (by first | assumption | rfl) (by omega) ?_
                refine wp_istore_n (pc' := 26) rfl rfl (Nat.le_of_ble_eq_true rfl) rfl ?_
                dsimp only [lset, lset2, List.set, List.getElem?_cons_zero, List.getElem?_cons_succ]
                refine wp_iload_n (pc' := 27) rfl rfl rfl ?_
                refine wp_iload_n (pc' := 28) rfl rfl rfl ?_
                refine wp_icmp_eq (pc' := 31) (pt := 57) rfl rfl rfl (fun q_354 => ?_) (fun q_354 => ?_)
                · skip
                  refine wp_aload_n (pc' := 58) rfl rfl rfl (by decide) ?_
                  refine wp_aload_n (pc' := 59) rfl rfl rfl (by decide) ?_
                  refine wp_getR (r' := 109) (ci := 10) (k0 := 15) (pc' := 62) rfl rfl (by decide) (by first | assumption | rfl) (hT.get 107 rfl) ?_
                  refine wp_iconst (a := 3) (pc' := 63) rfl rfl rfl ?_
                  refine wp_iload_n (pc' := 64) rfl rfl rfl ?_
                  refine wp_iadd (pc' := 65) rfl rfl (by first | exact w32_id (by omega) (by omega) | rfl) ?_
                  refine wp_iaload (pc' := 66) rfl rfl (by first | assumption | rfl) (by omega) ?_
                  refine wp_aload_n (pc' := 67) rfl rfl rfl (by decide) ?_
                  refine wp_getR (r' := 109) (ci := 10) (k0 := 15) (pc' := 70) rfl rfl (by decide) (by first | assumption | rfl) (hT.get 107 rfl) ?_
                  refine wp_iconst (a := 0) (pc' := 71) rfl rfl rfl ?_
                  refine wp_iaload (pc' := 72) rfl rfl (by first | assumption | rfl) (by omega) ?_
                  refine wp_call (pc' := 75) rfl rfl rfl rfl rfl ⟨Nat.le_of_ble_eq_true rfl, Nat.le_of_ble_eq_true rfl, Nat.le_of_ble_eq_true rfl, Nat.le_of_ble_eq_true rfl, Nat.le_of_ble_eq_true rfl⟩ rfl (c_Mod_far hpr.2.1.1 hxh hxm) ?_
                  intro v1 w9 hq1
                  rw [hq1.1, hq1.2]
                  clear hq1 v1 w9
                  rw [b11, m0, hhi.2.1, sFar_comm]
                  dsimp only [Option.toList, List.cons_append, List.nil_append, List.append_nil]
                  refine wp_istore (pc' := 77) rfl rfl (Nat.le_of_ble_eq_true rfl) rfl ?_
                  dsimp only [lset, lset2, List.set, List.getElem?_cons_zero, List.getElem?_cons_succ]
                  refine wp_iload_n (pc' := 78) rfl rfl rfl ?_
                  refine wp_swE (1) (pt := 108) rfl (by decide) rfl rfl (fun q_355 => ?_) (fun q_355 => ?_)
                  · skip
                    exfalso; omega
                  refine wp_swE (2) (pt := 141) rfl (by decide) rfl rfl (fun q_356 => ?_) (fun q_356 => ?_)
                  · skip
                    exfalso; omega
                  refine wp_swE (3) (pt := 144) rfl (by decide) rfl rfl (fun q_357 => ?_) (fun q_357 => ?_)
                  · skip
                    refine wp_aload_n (pc' := 145) rfl rfl rfl (by decide) ?_
                    refine wp_iload_n (pc' := 146) rfl rfl rfl ?_
                    refine wp_call (pc' := 149) rfl rfl rfl rfl rfl ⟨Nat.le_of_ble_eq_true rfl, Nat.le_of_ble_eq_true rfl, Nat.le_of_ble_eq_true rfl, Nat.le_of_ble_eq_true rfl, Nat.le_of_ble_eq_true rfl⟩ rfl (c_Mod_silent hT hpr.2.1 hxm) ?_
                    intro v1 w9 hq1
                    rw [hq1.1, hq1.2]
                    clear hq1 v1 w9
                    dsimp only [Option.toList, List.cons_append, List.nil_append, List.append_nil]
                    refine wp_ret rfl rfl rfl ?_
                    first
                    | (exfalso; omega)
                    | (refine ⟨congrArg (fun z => some (vI z)) ?_, rfl, hI⟩
                       first
                       | rfl
                       | (unfold sNorth at *; rw [m0, hhi.2.1, b11] at *; (repeat' split at *) <;> omega)
                       | (rw [b10, b11, b12, m0, m1]
                          refine sumI_congr (fun j a b => ?_)
                          unfold fSil
                          rw [fVote_congr (K := w 107) (H := fun i => w 109 (3 + i)) (K' := w 4) (H' := w 5) (hpr.2.2.2.2 j a b).1 (hpr.2.2.2.2 j a b).2.1])
                       | (rw [b11, b12, hhi.1, hhi.2.1])
                       | (split <;> omega)
                       | omega)
                  refine wp_swE (4) (pt := 150) rfl (by decide) rfl rfl (fun q_358 => ?_) (fun q_358 => ?_)
                  · skip
                    exfalso; omega
                  refine wp_swOut (pc' := 181) rfl (by omega) rfl ?_
                  exfalso; omega
                · skip
                  refine wp_iload_n (pc' := 32) rfl rfl rfl ?_
                  refine wp_iconst (a := 2) (pc' := 33) rfl rfl rfl ?_
                  refine wp_icmp_ne (pc' := 36) (pt := 41) rfl rfl rfl (fun q_359 => ?_) (fun q_359 => ?_)
                  · skip
                    refine wp_iload_n (pc' := 42) rfl rfl rfl ?_
                    refine wp_iconst (a := 3) (pc' := 43) rfl rfl rfl ?_
                    refine wp_icmp_ne (pc' := 46) (pt := 51) rfl rfl rfl (fun q_360 => ?_) (fun q_360 => ?_)
                    · skip
                      exfalso
                      (repeat' split at hof) <;> omega
                    · skip
                      refine wp_iload_n (pc' := 47) rfl rfl rfl ?_
                      refine wp_iconst (a := 5) (pc' := 48) rfl rfl rfl ?_
                      refine wp_icmp_eq (pc' := 51) (pt := 57) rfl rfl rfl (fun q_361 => ?_) (fun q_361 => ?_)
                      · skip
                        refine wp_aload_n (pc' := 58) rfl rfl rfl (by decide) ?_
                        refine wp_aload_n (pc' := 59) rfl rfl rfl (by decide) ?_
                        refine wp_getR (r' := 109) (ci := 10) (k0 := 15) (pc' := 62) rfl rfl (by decide) (by first | assumption | rfl) (hT.get 107 rfl) ?_
                        refine wp_iconst (a := 3) (pc' := 63) rfl rfl rfl ?_
                        refine wp_iload_n (pc' := 64) rfl rfl rfl ?_
                        refine wp_iadd (pc' := 65) rfl rfl (by first | exact w32_id (by omega) (by omega) | rfl) ?_
                        refine wp_iaload (pc' := 66) rfl rfl (by first | assumption | rfl) (by omega) ?_
                        refine wp_aload_n (pc' := 67) rfl rfl rfl (by decide) ?_
                        refine wp_getR (r' := 109) (ci := 10) (k0 := 15) (pc' := 70) rfl rfl (by decide) (by first | assumption | rfl) (hT.get 107 rfl) ?_
                        refine wp_iconst (a := 0) (pc' := 71) rfl rfl rfl ?_
                        refine wp_iaload (pc' := 72) rfl rfl (by first | assumption | rfl) (by omega) ?_
                        refine wp_call (pc' := 75) rfl rfl rfl rfl rfl ⟨Nat.le_of_ble_eq_true rfl, Nat.le_of_ble_eq_true rfl, Nat.le_of_ble_eq_true rfl, Nat.le_of_ble_eq_true rfl, Nat.le_of_ble_eq_true rfl⟩ rfl (c_Mod_far hpr.2.1.1 hxh hxm) ?_
                        intro v1 w9 hq1
                        rw [hq1.1, hq1.2]
                        clear hq1 v1 w9
                        rw [b11, m0, hhi.2.1, sFar_comm]
                        dsimp only [Option.toList, List.cons_append, List.nil_append, List.append_nil]
                        refine wp_istore (pc' := 77) rfl rfl (Nat.le_of_ble_eq_true rfl) rfl ?_
                        dsimp only [lset, lset2, List.set, List.getElem?_cons_zero, List.getElem?_cons_succ]
                        refine wp_iload_n (pc' := 78) rfl rfl rfl ?_
                        refine wp_swE (1) (pt := 108) rfl (by decide) rfl rfl (fun q_362 => ?_) (fun q_362 => ?_)
                        · skip
                          exfalso; omega
                        refine wp_swE (2) (pt := 141) rfl (by decide) rfl rfl (fun q_363 => ?_) (fun q_363 => ?_)
                        · skip
                          exfalso; omega
                        refine wp_swE (3) (pt := 144) rfl (by decide) rfl rfl (fun q_364 => ?_) (fun q_364 => ?_)
                        · skip
                          refine wp_aload_n (pc' := 145) rfl rfl rfl (by decide) ?_
                          refine wp_iload_n (pc' := 146) rfl rfl rfl ?_
                          refine wp_call (pc' := 149) rfl rfl rfl rfl rfl ⟨Nat.le_of_ble_eq_true rfl, Nat.le_of_ble_eq_true rfl, Nat.le_of_ble_eq_true rfl, Nat.le_of_ble_eq_true rfl, Nat.le_of_ble_eq_true rfl⟩ rfl (c_Mod_silent hT hpr.2.1 hxm) ?_
                          intro v1 w9 hq1
                          rw [hq1.1, hq1.2]
                          clear hq1 v1 w9
                          dsimp only [Option.toList, List.cons_append, List.nil_append, List.append_nil]
                          refine wp_ret rfl rfl rfl ?_
                          first
                          | (exfalso; omega)
                          | (refine ⟨congrArg (fun z => some (vI z)) ?_, rfl, hI⟩
                             first
                             | rfl
                             | (unfold sNorth at *; rw [m0, hhi.2.1, b11] at *; (repeat' split at *) <;> omega)
                             | (rw [b10, b11, b12, m0, m1]
                                refine sumI_congr (fun j a b => ?_)
                                unfold fSil
                                rw [fVote_congr (K := w 107) (H := fun i => w 109 (3 + i)) (K' := w 4) (H' := w 5) (hpr.2.2.2.2 j a b).1 (hpr.2.2.2.2 j a b).2.1])
                             | (rw [b11, b12, hhi.1, hhi.2.1])
                             | (split <;> omega)
                             | omega)
                        refine wp_swE (4) (pt := 150) rfl (by decide) rfl rfl (fun q_365 => ?_) (fun q_365 => ?_)
                        · skip
                          exfalso; omega
                        refine wp_swOut (pc' := 181) rfl (by omega) rfl ?_
                        exfalso; omega
                      · skip
                        exfalso
                        (repeat' split at hof) <;> omega
                  · skip
                    refine wp_iload_n (pc' := 37) rfl rfl rfl ?_
                    refine wp_iconst (a := 4) (pc' := 38) rfl rfl rfl ?_
                    refine wp_icmp_eq (pc' := 41) (pt := 57) rfl rfl rfl (fun q_366 => ?_) (fun q_366 => ?_)
                    · skip
                      refine wp_aload_n (pc' := 58) rfl rfl rfl (by decide) ?_
                      refine wp_aload_n (pc' := 59) rfl rfl rfl (by decide) ?_
                      refine wp_getR (r' := 109) (ci := 10) (k0 := 15) (pc' := 62) rfl rfl (by decide) (by first | assumption | rfl) (hT.get 107 rfl) ?_
                      refine wp_iconst (a := 3) (pc' := 63) rfl rfl rfl ?_
                      refine wp_iload_n (pc' := 64) rfl rfl rfl ?_
                      refine wp_iadd (pc' := 65) rfl rfl (by first | exact w32_id (by omega) (by omega) | rfl) ?_
                      refine wp_iaload (pc' := 66) rfl rfl (by first | assumption | rfl) (by omega) ?_
                      refine wp_aload_n (pc' := 67) rfl rfl rfl (by decide) ?_
                      refine wp_getR (r' := 109) (ci := 10) (k0 := 15) (pc' := 70) rfl rfl (by decide) (by first | assumption | rfl) (hT.get 107 rfl) ?_
                      refine wp_iconst (a := 0) (pc' := 71) rfl rfl rfl ?_
                      refine wp_iaload (pc' := 72) rfl rfl (by first | assumption | rfl) (by omega) ?_
                      refine wp_call (pc' := 75) rfl rfl rfl rfl rfl ⟨Nat.le_of_ble_eq_true rfl, Nat.le_of_ble_eq_true rfl, Nat.le_of_ble_eq_true rfl, Nat.le_of_ble_eq_true rfl, Nat.le_of_ble_eq_true rfl⟩ rfl (c_Mod_far hpr.2.1.1 hxh hxm) ?_
                      intro v1 w9 hq1
                      rw [hq1.1, hq1.2]
                      clear hq1 v1 w9
                      rw [b11, m0, hhi.2.1, sFar_comm]
                      dsimp only [Option.toList, List.cons_append, List.nil_append, List.append_nil]
                      refine wp_istore (pc' := 77) rfl rfl (Nat.le_of_ble_eq_true rfl) rfl ?_
                      dsimp only [lset, lset2, List.set, List.getElem?_cons_zero, List.getElem?_cons_succ]
                      refine wp_iload_n (pc' := 78) rfl rfl rfl ?_
                      refine wp_swE (1) (pt := 108) rfl (by decide) rfl rfl (fun q_367 => ?_) (fun q_367 => ?_)
                      · skip
                        exfalso; omega
                      refine wp_swE (2) (pt := 141) rfl (by decide) rfl rfl (fun q_368 => ?_) (fun q_368 => ?_)
                      · skip
                        exfalso; omega
                      refine wp_swE (3) (pt := 144) rfl (by decide) rfl rfl (fun q_369 => ?_) (fun q_369 => ?_)
                      · skip
                        refine wp_aload_n (pc' := 145) rfl rfl rfl (by decide) ?_
                        refine wp_iload_n (pc' := 146) rfl rfl rfl ?_
                        refine wp_call (pc' := 149) rfl rfl rfl rfl rfl ⟨Nat.le_of_ble_eq_true rfl, Nat.le_of_ble_eq_true rfl, Nat.le_of_ble_eq_true rfl, Nat.le_of_ble_eq_true rfl, Nat.le_of_ble_eq_true rfl⟩ rfl (c_Mod_silent hT hpr.2.1 hxm) ?_
                        intro v1 w9 hq1
                        rw [hq1.1, hq1.2]
                        clear hq1 v1 w9
                        dsimp only [Option.toList, List.cons_append, List.nil_append, List.append_nil]
                        refine wp_ret rfl rfl rfl ?_
                        first
                        | (exfalso; omega)
                        | (refine ⟨congrArg (fun z => some (vI z)) ?_, rfl, hI⟩
                           first
                           | rfl
                           | (unfold sNorth at *; rw [m0, hhi.2.1, b11] at *; (repeat' split at *) <;> omega)
                           | (rw [b10, b11, b12, m0, m1]
                              refine sumI_congr (fun j a b => ?_)
                              unfold fSil
                              rw [fVote_congr (K := w 107) (H := fun i => w 109 (3 + i)) (K' := w 4) (H' := w 5) (hpr.2.2.2.2 j a b).1 (hpr.2.2.2.2 j a b).2.1])
                           | (rw [b11, b12, hhi.1, hhi.2.1])
                           | (split <;> omega)
                           | omega)
                      refine wp_swE (4) (pt := 150) rfl (by decide) rfl rfl (fun q_370 => ?_) (fun q_370 => ?_)
                      · skip
                        exfalso; omega
                      refine wp_swOut (pc' := 181) rfl (by omega) rfl ?_
                      exfalso; omega
                    · skip
                      refine wp_iload_n (pc' := 42) rfl rfl rfl ?_
                      refine wp_iconst (a := 3) (pc' := 43) rfl rfl rfl ?_
                      refine wp_icmp_ne (pc' := 46) (pt := 51) rfl rfl rfl (fun q_371 => ?_) (fun q_371 => ?_)
                      · skip
                        exfalso
                        (repeat' split at hof) <;> omega
                      · skip
                        refine wp_iload_n (pc' := 47) rfl rfl rfl ?_
                        refine wp_iconst (a := 5) (pc' := 48) rfl rfl rfl ?_
                        refine wp_icmp_eq (pc' := 51) (pt := 57) rfl rfl rfl (fun q_372 => ?_) (fun q_372 => ?_)
                        · skip
                          refine wp_aload_n (pc' := 58) rfl rfl rfl (by decide) ?_
                          refine wp_aload_n (pc' := 59) rfl rfl rfl (by decide) ?_
                          refine wp_getR (r' := 109) (ci := 10) (k0 := 15) (pc' := 62) rfl rfl (by decide) (by first | assumption | rfl) (hT.get 107 rfl) ?_
                          refine wp_iconst (a := 3) (pc' := 63) rfl rfl rfl ?_
                          refine wp_iload_n (pc' := 64) rfl rfl rfl ?_
                          refine wp_iadd (pc' := 65) rfl rfl (by first | exact w32_id (by omega) (by omega) | rfl) ?_
                          refine wp_iaload (pc' := 66) rfl rfl (by first | assumption | rfl) (by omega) ?_
                          refine wp_aload_n (pc' := 67) rfl rfl rfl (by decide) ?_
                          refine wp_getR (r' := 109) (ci := 10) (k0 := 15) (pc' := 70) rfl rfl (by decide) (by first | assumption | rfl) (hT.get 107 rfl) ?_
                          refine wp_iconst (a := 0) (pc' := 71) rfl rfl rfl ?_
                          refine wp_iaload (pc' := 72) rfl rfl (by first | assumption | rfl) (by omega) ?_
                          refine wp_call (pc' := 75) rfl rfl rfl rfl rfl ⟨Nat.le_of_ble_eq_true rfl, Nat.le_of_ble_eq_true rfl, Nat.le_of_ble_eq_true rfl, Nat.le_of_ble_eq_true rfl, Nat.le_of_ble_eq_true rfl⟩ rfl (c_Mod_far hpr.2.1.1 hxh hxm) ?_
                          intro v1 w9 hq1
                          rw [hq1.1, hq1.2]
                          clear hq1 v1 w9
                          rw [b11, m0, hhi.2.1, sFar_comm]
                          dsimp only [Option.toList, List.cons_append, List.nil_append, List.append_nil]
                          refine wp_istore (pc' := 77) rfl rfl (Nat.le_of_ble_eq_true rfl) rfl ?_
                          dsimp only [lset, lset2, List.set, List.getElem?_cons_zero, List.getElem?_cons_succ]
                          refine wp_iload_n (pc' := 78) rfl rfl rfl ?_
                          refine wp_swE (1) (pt := 108) rfl (by decide) rfl rfl (fun q_373 => ?_) (fun q_373 => ?_)
                          · skip
                            exfalso; omega
                          refine wp_swE (2) (pt := 141) rfl (by decide) rfl rfl (fun q_374 => ?_) (fun q_374 => ?_)
                          · skip
                            exfalso; omega
                          refine wp_swE (3) (pt := 144) rfl (by decide) rfl rfl (fun q_375 => ?_) (fun q_375 => ?_)
                          · skip
                            refine wp_aload_n (pc' := 145) rfl rfl rfl (by decide) ?_
                            refine wp_iload_n (pc' := 146) rfl rfl rfl ?_
                            refine wp_call (pc' := 149) rfl rfl rfl rfl rfl ⟨Nat.le_of_ble_eq_true rfl, Nat.le_of_ble_eq_true rfl, Nat.le_of_ble_eq_true rfl, Nat.le_of_ble_eq_true rfl, Nat.le_of_ble_eq_true rfl⟩ rfl (c_Mod_silent hT hpr.2.1 hxm) ?_
                            intro v1 w9 hq1
                            rw [hq1.1, hq1.2]
                            clear hq1 v1 w9
                            dsimp only [Option.toList, List.cons_append, List.nil_append, List.append_nil]
                            refine wp_ret rfl rfl rfl ?_
                            first
                            | (exfalso; omega)
                            | (refine ⟨congrArg (fun z => some (vI z)) ?_, rfl, hI⟩
                               first
                               | rfl
                               | (unfold sNorth at *; rw [m0, hhi.2.1, b11] at *; (repeat' split at *) <;> omega)
                               | (rw [b10, b11, b12, m0, m1]
                                  refine sumI_congr (fun j a b => ?_)
                                  unfold fSil
                                  rw [fVote_congr (K := w 107) (H := fun i => w 109 (3 + i)) (K' := w 4) (H' := w 5) (hpr.2.2.2.2 j a b).1 (hpr.2.2.2.2 j a b).2.1])
                               | (rw [b11, b12, hhi.1, hhi.2.1])
                               | (split <;> omega)
                               | omega)
                          refine wp_swE (4) (pt := 150) rfl (by decide) rfl rfl (fun q_376 => ?_) (fun q_376 => ?_)
                          · skip
                            exfalso; omega
                          refine wp_swOut (pc' := 181) rfl (by omega) rfl ?_
                          exfalso; omega
                        · skip
                          exfalso
                          (repeat' split at hof) <;> omega
              · skip
                rw [hv1, hw9]
                clear hv1 hw9 v1 w9
                dsimp only [Option.toList, List.cons_append, List.nil_append, List.append_nil]
                refine wp_if_ne (pc' := 17) (pt := 19) rfl rfl rfl (fun q_377 => absurd q_377 (by decide)) (fun q_377 => ?_)
                refine wp_iconst (a := -1) (pc' := 18) rfl rfl rfl ?_
                refine wp_ret rfl rfl rfl ?_
                first
                | (exfalso; omega)
                | (refine ⟨congrArg (fun z => some (vI z)) ?_, rfl, hI⟩
                   first
                   | rfl
                   | (unfold sNorth at *; rw [m0, hhi.2.1, b11] at *; (repeat' split at *) <;> omega)
                   | (rw [b10, b11, b12, m0, m1]
                      refine sumI_congr (fun j a b => ?_)
                      unfold fSil
                      rw [fVote_congr (K := w 107) (H := fun i => w 109 (3 + i)) (K' := w 4) (H' := w 5) (hpr.2.2.2.2 j a b).1 (hpr.2.2.2.2 j a b).2.1])
                   | (rw [b11, b12, hhi.1, hhi.2.1])
                   | (split <;> omega)
                   | omega)
            · skip
              rw [hv1, hw9]
              clear hv1 hw9 v1 w9
              dsimp only [Option.toList, List.cons_append, List.nil_append, List.append_nil]
              refine wp_if_eq (pc' := 8) (pt := 17) rfl rfl rfl (fun q_378 => ?_) (fun q_378 => absurd (by decide) q_378)
              refine wp_iconst (a := -1) (pc' := 18) rfl rfl rfl ?_
              refine wp_ret rfl rfl rfl ?_
              first
              | (exfalso; omega)
              | (refine ⟨congrArg (fun z => some (vI z)) ?_, rfl, hI⟩
                 first
                 | rfl
                 | (unfold sNorth at *; rw [m0, hhi.2.1, b11] at *; (repeat' split at *) <;> omega)
                 | (rw [b10, b11, b12, m0, m1]
                    refine sumI_congr (fun j a b => ?_)
                    unfold fSil
                    rw [fVote_congr (K := w 107) (H := fun i => w 109 (3 + i)) (K' := w 4) (H' := w 5) (hpr.2.2.2.2 j a b).1 (hpr.2.2.2.2 j a b).2.1])
                 | (rw [b11, b12, hhi.1, hhi.2.1])
                 | (split <;> omega)
                 | omega)
          refine wp_swE (4) (pt := 126) rfl (by decide) rfl rfl (fun q_379 => ?_) (fun q_379 => ?_)
          · skip
            refine wp_iconst (a := 0) (pc' := 127) rfl rfl rfl ?_
            refine wp_aload_n (pc' := 128) rfl rfl rfl (by decide) ?_
            refine wp_getR (r' := 3) (ci := 9) (k0 := 2) (pc' := 131) rfl rfl (by decide) (by first | assumption | rfl) (hT.get 2 rfl) ?_
            refine wp_iload_n (pc' := 132) rfl rfl rfl ?_
            refine wp_aload_n (pc' := 133) rfl rfl rfl (by decide) ?_
            refine wp_getR (r' := 3) (ci := 9) (k0 := 2) (pc' := 136) rfl rfl (by decide) (by first | assumption | rfl) (hT.get 2 rfl) ?_
            refine wp_getI (ci := 3) (k0 := 3) (pc' := 139) rfl rfl (by decide) (by first | assumption | rfl) ?_
            refine wp_call (pc' := 142) rfl rfl rfl rfl rfl ⟨Nat.le_of_ble_eq_true rfl, Nat.le_of_ble_eq_true rfl, Nat.le_of_ble_eq_true rfl, Nat.le_of_ble_eq_true rfl, Nat.le_of_ble_eq_true rfl⟩ rfl (c_Land_gains hpr.1.1 (by omega) hT hpr.2.2.1 hai.2.1) ?_
            intro v1 w9 hq1
            rw [hq1.1, hq1.2]
            clear hq1 v1 w9
            dsimp only [Option.toList, List.cons_append, List.nil_append, List.append_nil]
            refine wp_aload_n (pc' := 143) rfl rfl rfl (by decide) ?_
            refine wp_getR (r' := 3) (ci := 9) (k0 := 2) (pc' := 146) rfl rfl (by decide) (by first | assumption | rfl) (hT.get 2 rfl) ?_
            refine wp_iconst (a := 2) (pc' := 147) rfl rfl rfl ?_
            refine wp_iload_n (pc' := 148) rfl rfl rfl ?_
            refine wp_aload_n (pc' := 149) rfl rfl rfl (by decide) ?_
            refine wp_getR (r' := 3) (ci := 9) (k0 := 2) (pc' := 152) rfl rfl (by decide) (by first | assumption | rfl) (hT.get 2 rfl) ?_
            refine wp_getI (ci := 3) (k0 := 3) (pc' := 155) rfl rfl (by decide) (by first | assumption | rfl) ?_
            refine wp_call (pc' := 158) rfl rfl rfl rfl rfl ⟨Nat.le_of_ble_eq_true rfl, Nat.le_of_ble_eq_true rfl, Nat.le_of_ble_eq_true rfl, Nat.le_of_ble_eq_true rfl, Nat.le_of_ble_eq_true rfl⟩ rfl (c_Land_gainsAs hpr.1.1 (by omega) hT hpr.2.2.1 hai.2.1) ?_
            intro v1 w9 hq1
            rw [hq1.1, hq1.2]
            clear hq1 v1 w9
            rw [show sG (w 3 0) 2 (w 5 i) (w 3 3) = 9 - sFar (w 3 0) (w 3 3) (w 5 i) from by unfold sG sGainOf; simp]
            dsimp only [Option.toList, List.cons_append, List.nil_append, List.append_nil]
            refine wp_isub (pc' := 159) rfl rfl (by first | exact w32_id (by omega) (by omega) | rfl) ?_
            refine wp_max (pc' := 162) rfl rfl (Nat.le_of_ble_eq_true rfl) rfl ?_
            refine wp_ret rfl rfl rfl ?_
            refine ⟨_, rfl, ?_, ?_⟩
            · rfl
            refine wp_aload_n (pc' := 1) rfl rfl rfl (by decide) ?_
            refine wp_iload_n (pc' := 2) rfl rfl rfl ?_
            refine wp_call (pc' := 5) rfl rfl rfl rfl rfl ⟨Nat.le_of_ble_eq_true rfl, Nat.le_of_ble_eq_true rfl, Nat.le_of_ble_eq_true rfl, Nat.le_of_ble_eq_true rfl, Nat.le_of_ble_eq_true rfl⟩ rfl (c_Mod_isOne (by omega)) ?_
            rintro v1 w9 ⟨hw9, ⟨hv1, ho2⟩ | ⟨hv1, ho2⟩⟩
            · skip
              rw [hv1, hw9]
              clear hv1 hw9 v1 w9
              dsimp only [Option.toList, List.cons_append, List.nil_append, List.append_nil]
              refine wp_if_eq (pc' := 8) (pt := 17) rfl rfl rfl (fun q_430 => absurd q_430 (by decide)) (fun q_430 => ?_)
              refine wp_iload_n (pc' := 9) rfl rfl rfl ?_
              refine wp_iconst (a := 1) (pc' := 10) rfl rfl rfl ?_
              refine wp_iconst (a := 5) (pc' := 11) rfl rfl rfl ?_
              refine wp_call (pc' := 14) rfl rfl rfl rfl rfl ⟨Nat.le_of_ble_eq_true rfl, Nat.le_of_ble_eq_true rfl, Nat.le_of_ble_eq_true rfl, Nat.le_of_ble_eq_true rfl, Nat.le_of_ble_eq_true rfl⟩ rfl (c_Mod_in) ?_
              rintro v1 w9 ⟨hw9, ⟨hv1, hin⟩ | ⟨hv1, hin⟩⟩
              · skip
                rw [hv1, hw9]
                clear hv1 hw9 v1 w9
                dsimp only [Option.toList, List.cons_append, List.nil_append, List.append_nil]
                refine wp_if_ne (pc' := 17) (pt := 19) rfl rfl rfl (fun q_431 => ?_) (fun q_431 => absurd (by decide) q_431)
                have hk4 : w 107 i = w 4 i := hhi.1
                unfold sWider at hof
                refine wp_aload_n (pc' := 20) rfl rfl rfl (by decide) ?_
                refine wp_getR (r' := 107) (ci := 10) (k0 := 13) (pc' := 23) rfl rfl (by decide) (by first | assumption | rfl) (hT.get 105 rfl) ?_
                refine wp_iload_n (pc' := 24) rfl rfl rfl ?_
                refine wp_iaload (pc' := 25) rfl rfl (by first | assumption | rfl) (by omega) ?_
                refine wp_istore_n (pc' := 26) rfl rfl (Nat.le_of_ble_eq_true rfl) rfl ?_
                dsimp only [lset, lset2, List.set, List.getElem?_cons_zero, List.getElem?_cons_succ]
                refine wp_iload_n (pc' := 27) rfl rfl rfl ?_
                refine wp_iload_n (pc' := 28) rfl rfl rfl ?_
                refine wp_icmp_eq (pc' := 31) (pt := 57) rfl rfl rfl (fun q_432 => ?_) (fun q_432 => ?_)
                · skip
                  refine wp_aload_n (pc' := 58) rfl rfl rfl (by decide) ?_
                  refine wp_aload_n (pc' := 59) rfl rfl rfl (by decide) ?_
                  refine wp_getR (r' := 109) (ci := 10) (k0 := 15) (pc' := 62) rfl rfl (by decide) (by first | assumption | rfl) (hT.get 107 rfl) ?_
                  refine wp_iconst (a := 3) (pc' := 63) rfl rfl rfl ?_
                  refine wp_iload_n (pc' := 64) rfl rfl rfl ?_
                  refine wp_iadd (pc' := 65) rfl rfl (by first | exact w32_id (by omega) (by omega) | rfl) ?_
                  refine wp_iaload (pc' := 66) rfl rfl (by first | assumption | rfl) (by omega) ?_
                  refine wp_aload_n (pc' := 67) rfl rfl rfl (by decide) ?_
                  refine wp_getR (r' := 109) (ci := 10) (k0 := 15) (pc' := 70) rfl rfl (by decide) (by first | assumption | rfl) (hT.get 107 rfl) ?_
                  refine wp_iconst (a := 0) (pc' := 71) rfl rfl rfl ?_
                  refine wp_iaload (pc' := 72) rfl rfl (by first | assumption | rfl) (by omega) ?_
                  refine wp_call (pc' := 75) rfl rfl rfl rfl rfl ⟨Nat.le_of_ble_eq_true rfl, Nat.le_of_ble_eq_true rfl, Nat.le_of_ble_eq_true rfl, Nat.le_of_ble_eq_true rfl, Nat.le_of_ble_eq_true rfl⟩ rfl (c_Mod_far hpr.2.1.1 hxh hxm) ?_
                  intro v1 w9 hq1
                  rw [hq1.1, hq1.2]
                  clear hq1 v1 w9
                  rw [b11, m0, hhi.2.1, sFar_comm]
                  dsimp only [Option.toList, List.cons_append, List.nil_append, List.append_nil]
                  refine wp_istore (pc' := 77) rfl rfl (Nat.le_of_ble_eq_true rfl) rfl ?_
                  dsimp only [lset, lset2, List.set, List.getElem?_cons_zero, List.getElem?_cons_succ]
                  refine wp_iload_n (pc' := 78) rfl rfl rfl ?_
                  refine wp_swE (1) (pt := 108) rfl (by decide) rfl rfl (fun q_433 => ?_) (fun q_433 => ?_)
                  · skip
                    exfalso; omega
                  refine wp_swE (2) (pt := 141) rfl (by decide) rfl rfl (fun q_434 => ?_) (fun q_434 => ?_)
                  · skip
                    exfalso; omega
                  refine wp_swE (3) (pt := 144) rfl (by decide) rfl rfl (fun q_435 => ?_) (fun q_435 => ?_)
                  · skip
                    exfalso; omega
                  refine wp_swE (4) (pt := 150) rfl (by decide) rfl rfl (fun q_436 => ?_) (fun q_436 => ?_)
                  · skip
                    refine wp_aload_n (pc' := 151) rfl rfl rfl (by decide) ?_
                    refine wp_iload_n (pc' := 152) rfl rfl rfl ?_
                    refine wp_aload_n (pc' := 153) rfl rfl rfl (by decide) ?_
                    refine wp_getR (r' := 109) (ci := 10) (k0 := 15) (pc' := 156) rfl rfl (by decide) (by first | assumption | rfl) (hT.get 107 rfl) ?_
                    refine wp_iconst (a := 0) (pc' := 157) rfl rfl rfl ?_
                    refine wp_iaload (pc' := 158) rfl rfl (by first | assumption | rfl) (by omega) ?_
                    refine wp_call (pc' := 161) rfl rfl rfl rfl rfl ⟨Nat.le_of_ble_eq_true rfl, Nat.le_of_ble_eq_true rfl, Nat.le_of_ble_eq_true rfl, Nat.le_of_ble_eq_true rfl, Nat.le_of_ble_eq_true rfl⟩ rfl (c_Mod_gainOn hpr.2.1.1 (by omega) hT hxm hxh) ?_
                    intro v1 w9 hq1
                    rw [hq1.1, hq1.2]
                    clear hq1 v1 w9
                    rw [b11, hhi.1, hhi.2.1, m0]
                    dsimp only [Option.toList, List.cons_append, List.nil_append, List.append_nil]
                    refine wp_bipush (a := 9) (pc' := 163) rfl rfl rfl ?_
                    refine wp_iload (pc' := 165) rfl rfl rfl ?_
                    refine wp_isub (pc' := 166) rfl rfl (by first | exact w32_id (by omega) (by omega) | rfl) ?_
                    refine wp_isub (pc' := 167) rfl rfl (by first | exact w32_id (by omega) (by omega) | rfl) ?_
                    refine wp_istore (pc' := 169) rfl rfl (Nat.le_of_ble_eq_true rfl) rfl ?_
                    dsimp only [lset, lset2, List.set, List.getElem?_cons_zero, List.getElem?_cons_succ]
                    refine wp_iload (pc' := 171) rfl rfl rfl ?_
                    refine wp_if_le (pc' := 174) (pt := 179) rfl rfl rfl (fun q_437 => ?_) (fun q_437 => ?_)
                    · skip
                      refine wp_iconst (a := 0) (pc' := 180) rfl rfl rfl ?_
                      refine wp_ret rfl rfl rfl ?_
                      first
                      | (exfalso; omega)
                      | (refine ⟨congrArg (fun z => some (vI z)) ?_, rfl, hI⟩
                         first
                         | rfl
                         | (unfold sNorth at *; rw [m0, hhi.2.1, b11] at *; (repeat' split at *) <;> omega)
                         | (rw [b10, b11, b12, m0, m1]
                            refine sumI_congr (fun j a b => ?_)
                            unfold fSil
                            rw [fVote_congr (K := w 107) (H := fun i => w 109 (3 + i)) (K' := w 4) (H' := w 5) (hpr.2.2.2.2 j a b).1 (hpr.2.2.2.2 j a b).2.1])
                         | (rw [b11, b12, hhi.1, hhi.2.1])
                         | (split <;> omega)
                         | omega)
                    · skip
                      refine wp_iload (pc' := 176) rfl rfl rfl ?_
                      refine wp_goto (pc' := 180) rfl rfl ?_
                      refine wp_ret rfl rfl rfl ?_
                      first
                      | (exfalso; omega)
                      | (refine ⟨congrArg (fun z => some (vI z)) ?_, rfl, hI⟩
                         first
                         | rfl
                         | (unfold sNorth at *; rw [m0, hhi.2.1, b11] at *; (repeat' split at *) <;> omega)
                         | (rw [b10, b11, b12, m0, m1]
                            refine sumI_congr (fun j a b => ?_)
                            unfold fSil
                            rw [fVote_congr (K := w 107) (H := fun i => w 109 (3 + i)) (K' := w 4) (H' := w 5) (hpr.2.2.2.2 j a b).1 (hpr.2.2.2.2 j a b).2.1])
                         | (rw [b11, b12, hhi.1, hhi.2.1])
                         | (split <;> omega)
                         | omega)
                  refine wp_swOut (pc' := 181) rfl (by omega) rfl ?_
                  exfalso; omega
                · skip
                  refine wp_iload_n (pc' := 32) rfl rfl rfl ?_
                  refine wp_iconst (a := 2) (pc' := 33) rfl rfl rfl ?_
                  refine wp_icmp_ne (pc' := 36) (pt := 41) rfl rfl rfl (fun q_438 => ?_) (fun q_438 => ?_)
                  · skip
                    refine wp_iload_n (pc' := 42) rfl rfl rfl ?_
                    refine wp_iconst (a := 3) (pc' := 43) rfl rfl rfl ?_
                    refine wp_icmp_ne (pc' := 46) (pt := 51) rfl rfl rfl (fun q_439 => ?_) (fun q_439 => ?_)
                    · skip
                      exfalso
                      (repeat' split at hof) <;> omega
                    · skip
                      refine wp_iload_n (pc' := 47) rfl rfl rfl ?_
                      refine wp_iconst (a := 5) (pc' := 48) rfl rfl rfl ?_
                      refine wp_icmp_eq (pc' := 51) (pt := 57) rfl rfl rfl (fun q_440 => ?_) (fun q_440 => ?_)
                      · skip
                        refine wp_aload_n (pc' := 58) rfl rfl rfl (by decide) ?_
                        refine wp_aload_n (pc' := 59) rfl rfl rfl (by decide) ?_
                        refine wp_getR (r' := 109) (ci := 10) (k0 := 15) (pc' := 62) rfl rfl (by decide) (by first | assumption | rfl) (hT.get 107 rfl) ?_
                        refine wp_iconst (a := 3) (pc' := 63) rfl rfl rfl ?_
                        refine wp_iload_n (pc' := 64) rfl rfl rfl ?_
                        refine wp_iadd (pc' := 65) rfl rfl (by first | exact w32_id (by omega) (by omega) | rfl) ?_
                        refine wp_iaload (pc' := 66) rfl rfl (by first | assumption | rfl) (by omega) ?_
                        refine wp_aload_n (pc' := 67) rfl rfl rfl (by decide) ?_
                        refine wp_getR (r' := 109) (ci := 10) (k0 := 15) (pc' := 70) rfl rfl (by decide) (by first | assumption | rfl) (hT.get 107 rfl) ?_
                        refine wp_iconst (a := 0) (pc' := 71) rfl rfl rfl ?_
                        refine wp_iaload (pc' := 72) rfl rfl (by first | assumption | rfl) (by omega) ?_
                        refine wp_call (pc' := 75) rfl rfl rfl rfl rfl ⟨Nat.le_of_ble_eq_true rfl, Nat.le_of_ble_eq_true rfl, Nat.le_of_ble_eq_true rfl, Nat.le_of_ble_eq_true rfl, Nat.le_of_ble_eq_true rfl⟩ rfl (c_Mod_far hpr.2.1.1 hxh hxm) ?_
                        intro v1 w9 hq1
                        rw [hq1.1, hq1.2]
                        clear hq1 v1 w9
                        rw [b11, m0, hhi.2.1, sFar_comm]
                        dsimp only [Option.toList, List.cons_append, List.nil_append, List.append_nil]
                        refine wp_istore (pc' := 77) rfl rfl (Nat.le_of_ble_eq_true rfl) rfl ?_
                        dsimp only [lset, lset2, List.set, List.getElem?_cons_zero, List.getElem?_cons_succ]
                        refine wp_iload_n (pc' := 78) rfl rfl rfl ?_
                        refine wp_swE (1) (pt := 108) rfl (by decide) rfl rfl (fun q_441 => ?_) (fun q_441 => ?_)
                        · skip
                          exfalso; omega
                        refine wp_swE (2) (pt := 141) rfl (by decide) rfl rfl (fun q_442 => ?_) (fun q_442 => ?_)
                        · skip
                          exfalso; omega
                        refine wp_swE (3) (pt := 144) rfl (by decide) rfl rfl (fun q_443 => ?_) (fun q_443 => ?_)
                        · skip
                          exfalso; omega
                        refine wp_swE (4) (pt := 150) rfl (by decide) rfl rfl (fun q_444 => ?_) (fun q_444 => ?_)
                        · skip
                          refine wp_aload_n (pc' := 151) rfl rfl rfl (by decide) ?_
                          refine wp_iload_n (pc' := 152) rfl rfl rfl ?_
                          refine wp_aload_n (pc' := 153) rfl rfl rfl (by decide) ?_
                          refine wp_getR (r' := 109) (ci := 10) (k0 := 15) (pc' := 156) rfl rfl (by decide) (by first | assumption | rfl) (hT.get 107 rfl) ?_
                          refine wp_iconst (a := 0) (pc' := 157) rfl rfl rfl ?_
                          refine wp_iaload (pc' := 158) rfl rfl (by first | assumption | rfl) (by omega) ?_
                          refine wp_call (pc' := 161) rfl rfl rfl rfl rfl ⟨Nat.le_of_ble_eq_true rfl, Nat.le_of_ble_eq_true rfl, Nat.le_of_ble_eq_true rfl, Nat.le_of_ble_eq_true rfl, Nat.le_of_ble_eq_true rfl⟩ rfl (c_Mod_gainOn hpr.2.1.1 (by omega) hT hxm hxh) ?_
                          intro v1 w9 hq1
                          rw [hq1.1, hq1.2]
                          clear hq1 v1 w9
                          rw [b11, hhi.1, hhi.2.1, m0]
                          dsimp only [Option.toList, List.cons_append, List.nil_append, List.append_nil]
                          refine wp_bipush (a := 9) (pc' := 163) rfl rfl rfl ?_
                          refine wp_iload (pc' := 165) rfl rfl rfl ?_
                          refine wp_isub (pc' := 166) rfl rfl (by first | exact w32_id (by omega) (by omega) | rfl) ?_
                          refine wp_isub (pc' := 167) rfl rfl (by first | exact w32_id (by omega) (by omega) | rfl) ?_
                          refine wp_istore (pc' := 169) rfl rfl (Nat.le_of_ble_eq_true rfl) rfl ?_
                          dsimp only [lset, lset2, List.set, List.getElem?_cons_zero, List.getElem?_cons_succ]
                          refine wp_iload (pc' := 171) rfl rfl rfl ?_
                          refine wp_if_le (pc' := 174) (pt := 179) rfl rfl rfl (fun q_445 => ?_) (fun q_445 => ?_)
                          · skip
                            refine wp_iconst (a := 0) (pc' := 180) rfl rfl rfl ?_
                            refine wp_ret rfl rfl rfl ?_
                            first
                            | (exfalso; omega)
                            | (refine ⟨congrArg (fun z => some (vI z)) ?_, rfl, hI⟩
                               first
                               | rfl
                               | (unfold sNorth at *; rw [m0, hhi.2.1, b11] at *; (repeat' split at *) <;> omega)
                               | (rw [b10, b11, b12, m0, m1]
                                  refine sumI_congr (fun j a b => ?_)
                                  unfold fSil
                                  rw [fVote_congr (K := w 107) (H := fun i => w 109 (3 + i)) (K' := w 4) (H' := w 5) (hpr.2.2.2.2 j a b).1 (hpr.2.2.2.2 j a b).2.1])
                               | (rw [b11, b12, hhi.1, hhi.2.1])
                               | (split <;> omega)
                               | omega)
                          · skip
                            refine wp_iload (pc' := 176) rfl rfl rfl ?_
                            refine wp_goto (pc' := 180) rfl rfl ?_
                            refine wp_ret rfl rfl rfl ?_
                            first
                            | (exfalso; omega)
                            | (refine ⟨congrArg (fun z => some (vI z)) ?_, rfl, hI⟩
                               first
                               | rfl
                               | (unfold sNorth at *; rw [m0, hhi.2.1, b11] at *; (repeat' split at *) <;> omega)
                               | (rw [b10, b11, b12, m0, m1]
                                  refine sumI_congr (fun j a b => ?_)
                                  unfold fSil
                                  rw [fVote_congr (K := w 107) (H := fun i => w 109 (3 + i)) (K' := w 4) (H' := w 5) (hpr.2.2.2.2 j a b).1 (hpr.2.2.2.2 j a b).2.1])
                               | (rw [b11, b12, hhi.1, hhi.2.1])
                               | (split <;> omega)
                               | omega)
                        refine wp_swOut (pc' := 181) rfl (by omega) rfl ?_
                        exfalso; omega
                      · skip
                        exfalso
                        (repeat' split at hof) <;> omega
                  · skip
                    refine wp_iload_n (pc' := 37) rfl rfl rfl ?_
                    refine wp_iconst (a := 4) (pc' := 38) rfl rfl rfl ?_
                    refine wp_icmp_eq (pc' := 41) (pt := 57) rfl rfl rfl (fun q_446 => ?_) (fun q_446 => ?_)
                    · skip
                      refine wp_aload_n (pc' := 58) rfl rfl rfl (by decide) ?_
                      refine wp_aload_n (pc' := 59) rfl rfl rfl (by decide) ?_
                      refine wp_getR (r' := 109) (ci := 10) (k0 := 15) (pc' := 62) rfl rfl (by decide) (by first | assumption | rfl) (hT.get 107 rfl) ?_
                      refine wp_iconst (a := 3) (pc' := 63) rfl rfl rfl ?_
                      refine wp_iload_n (pc' := 64) rfl rfl rfl ?_
                      refine wp_iadd (pc' := 65) rfl rfl (by first | exact w32_id (by omega) (by omega) | rfl) ?_
                      refine wp_iaload (pc' := 66) rfl rfl (by first | assumption | rfl) (by omega) ?_
                      refine wp_aload_n (pc' := 67) rfl rfl rfl (by decide) ?_
                      refine wp_getR (r' := 109) (ci := 10) (k0 := 15) (pc' := 70) rfl rfl (by decide) (by first | assumption | rfl) (hT.get 107 rfl) ?_
                      refine wp_iconst (a := 0) (pc' := 71) rfl rfl rfl ?_
                      refine wp_iaload (pc' := 72) rfl rfl (by first | assumption | rfl) (by omega) ?_
                      refine wp_call (pc' := 75) rfl rfl rfl rfl rfl ⟨Nat.le_of_ble_eq_true rfl, Nat.le_of_ble_eq_true rfl, Nat.le_of_ble_eq_true rfl, Nat.le_of_ble_eq_true rfl, Nat.le_of_ble_eq_true rfl⟩ rfl (c_Mod_far hpr.2.1.1 hxh hxm) ?_
                      intro v1 w9 hq1
                      rw [hq1.1, hq1.2]
                      clear hq1 v1 w9
                      rw [b11, m0, hhi.2.1, sFar_comm]
                      dsimp only [Option.toList, List.cons_append, List.nil_append, List.append_nil]
                      refine wp_istore (pc' := 77) rfl rfl (Nat.le_of_ble_eq_true rfl) rfl ?_
                      dsimp only [lset, lset2, List.set, List.getElem?_cons_zero, List.getElem?_cons_succ]
                      refine wp_iload_n (pc' := 78) rfl rfl rfl ?_
                      refine wp_swE (1) (pt := 108) rfl (by decide) rfl rfl (fun q_447 => ?_) (fun q_447 => ?_)
                      · skip
                        exfalso; omega
                      refine wp_swE (2) (pt := 141) rfl (by decide) rfl rfl (fun q_448 => ?_) (fun q_448 => ?_)
                      · skip
                        exfalso; omega
                      refine wp_swE (3) (pt := 144) rfl (by decide) rfl rfl (fun q_449 => ?_) (fun q_449 => ?_)
                      · skip
                        exfalso; omega
                      refine wp_swE (4) (pt := 150) rfl (by decide) rfl rfl (fun q_450 => ?_) (fun q_450 => ?_)
                      · skip
                        refine wp_aload_n (pc' := 151) rfl rfl rfl (by decide) ?_
                        refine wp_iload_n (pc' := 152) rfl rfl rfl ?_
                        refine wp_aload_n (pc' := 153) rfl rfl rfl (by decide) ?_
                        refine wp_getR (r' := 109) (ci := 10) (k0 := 15) (pc' := 156) rfl rfl (by decide) (by first | assumption | rfl) (hT.get 107 rfl) ?_
                        refine wp_iconst (a := 0) (pc' := 157) rfl rfl rfl ?_
                        refine wp_iaload (pc' := 158) rfl rfl (by first | assumption | rfl) (by omega) ?_
                        refine wp_call (pc' := 161) rfl rfl rfl rfl rfl ⟨Nat.le_of_ble_eq_true rfl, Nat.le_of_ble_eq_true rfl, Nat.le_of_ble_eq_true rfl, Nat.le_of_ble_eq_true rfl, Nat.le_of_ble_eq_true rfl⟩ rfl (c_Mod_gainOn hpr.2.1.1 (by omega) hT hxm hxh) ?_
                        intro v1 w9 hq1
                        rw [hq1.1, hq1.2]
                        clear hq1 v1 w9
                        rw [b11, hhi.1, hhi.2.1, m0]
                        dsimp only [Option.toList, List.cons_append, List.nil_append, List.append_nil]
                        refine wp_bipush (a := 9) (pc' := 163) rfl rfl rfl ?_
                        refine wp_iload (pc' := 165) rfl rfl rfl ?_
                        refine wp_isub (pc' := 166) rfl rfl (by first | exact w32_id (by omega) (by omega) | rfl) ?_
                        refine wp_isub (pc' := 167) rfl rfl (by first | exact w32_id (by omega) (by omega) | rfl) ?_
                        refine wp_istore (pc' := 169) rfl rfl (Nat.le_of_ble_eq_true rfl) rfl ?_
                        dsimp only [lset, lset2, List.set, List.getElem?_cons_zero, List.getElem?_cons_succ]
                        refine wp_iload (pc' := 171) rfl rfl rfl ?_
                        refine wp_if_le (pc' := 174) (pt := 179) rfl rfl rfl (fun q_451 => ?_) (fun q_451 => ?_)
                        · skip
                          refine wp_iconst (a := 0) (pc' := 180) rfl rfl rfl ?_
                          refine wp_ret rfl rfl rfl ?_
                          first
                          | (exfalso; omega)
                          | (refine ⟨congrArg (fun z => some (vI z)) ?_, rfl, hI⟩
                             first
                             | rfl
                             | (unfold sNorth at *; rw [m0, hhi.2.1, b11] at *; (repeat' split at *) <;> omega)
                             | (rw [b10, b11, b12, m0, m1]
                                refine sumI_congr (fun j a b => ?_)
                                unfold fSil
                                rw [fVote_congr (K := w 107) (H := fun i => w 109 (3 + i)) (K' := w 4) (H' := w 5) (hpr.2.2.2.2 j a b).1 (hpr.2.2.2.2 j a b).2.1])
                             | (rw [b11, b12, hhi.1, hhi.2.1])
                             | (split <;> omega)
                             | omega)
                        · skip
                          refine wp_iload (pc' := 176) rfl rfl rfl ?_
                          refine wp_goto (pc' := 180) rfl rfl ?_
                          refine wp_ret rfl rfl rfl ?_
                          first
                          | (exfalso; omega)
                          | (refine ⟨congrArg (fun z => some (vI z)) ?_, rfl, hI⟩
                             first
                             | rfl
                             | (unfold sNorth at *; rw [m0, hhi.2.1, b11] at *; (repeat' split at *) <;> omega)
                             | (rw [b10, b11, b12, m0, m1]
                                refine sumI_congr (fun j a b => ?_)
                                unfold fSil
                                rw [fVote_congr (K := w 107) (H := fun i => w 109 (3 + i)) (K' := w 4) (H' := w 5) (hpr.2.2.2.2 j a b).1 (hpr.2.2.2.2 j a b).2.1])
                             | (rw [b11, b12, hhi.1, hhi.2.1])
                             | (split <;> omega)
                             | omega)
                      refine wp_swOut (pc' := 181) rfl (by omega) rfl ?_
                      exfalso; omega
                    · skip
                      refine wp_iload_n (pc' := 42) rfl rfl rfl ?_
                      refine wp_iconst (a := 3) (pc' := 43) rfl rfl rfl ?_
                      refine wp_icmp_ne (pc' := 46) (pt := 51) rfl rfl rfl (fun q_452 => ?_) (fun q_452 => ?_)
                      · skip
                        exfalso
                        (repeat' split at hof) <;> omega
                      · skip
                        refine wp_iload_n (pc' := 47) rfl rfl rfl ?_
                        refine wp_iconst (a := 5) (pc' := 48) rfl rfl rfl ?_
                        refine wp_icmp_eq (pc' := 51) (pt := 57) rfl rfl rfl (fun q_453 => ?_) (fun q_453 => ?_)
                        · skip
                          refine wp_aload_n (pc' := 58) rfl rfl rfl (by decide) ?_
                          refine wp_aload_n (pc' := 59) rfl rfl rfl (by decide) ?_
                          refine wp_getR (r' := 109) (ci := 10) (k0 := 15) (pc' := 62) rfl rfl (by decide) (by first | assumption | rfl) (hT.get 107 rfl) ?_
                          refine wp_iconst (a := 3) (pc' := 63) rfl rfl rfl ?_
                          refine wp_iload_n (pc' := 64) rfl rfl rfl ?_
                          refine wp_iadd (pc' := 65) rfl rfl (by first | exact w32_id (by omega) (by omega) | rfl) ?_
                          refine wp_iaload (pc' := 66) rfl rfl (by first | assumption | rfl) (by omega) ?_
                          refine wp_aload_n (pc' := 67) rfl rfl rfl (by decide) ?_
                          refine wp_getR (r' := 109) (ci := 10) (k0 := 15) (pc' := 70) rfl rfl (by decide) (by first | assumption | rfl) (hT.get 107 rfl) ?_
                          refine wp_iconst (a := 0) (pc' := 71) rfl rfl rfl ?_
                          refine wp_iaload (pc' := 72) rfl rfl (by first | assumption | rfl) (by omega) ?_
                          refine wp_call (pc' := 75) rfl rfl rfl rfl rfl ⟨Nat.le_of_ble_eq_true rfl, Nat.le_of_ble_eq_true rfl, Nat.le_of_ble_eq_true rfl, Nat.le_of_ble_eq_true rfl, Nat.le_of_ble_eq_true rfl⟩ rfl (c_Mod_far hpr.2.1.1 hxh hxm) ?_
                          intro v1 w9 hq1
                          rw [hq1.1, hq1.2]
                          clear hq1 v1 w9
                          rw [b11, m0, hhi.2.1, sFar_comm]
                          dsimp only [Option.toList, List.cons_append, List.nil_append, List.append_nil]
                          refine wp_istore (pc' := 77) rfl rfl (Nat.le_of_ble_eq_true rfl) rfl ?_
                          dsimp only [lset, lset2, List.set, List.getElem?_cons_zero, List.getElem?_cons_succ]
                          refine wp_iload_n (pc' := 78) rfl rfl rfl ?_
                          refine wp_swE (1) (pt := 108) rfl (by decide) rfl rfl (fun q_454 => ?_) (fun q_454 => ?_)
                          · skip
                            exfalso; omega
                          refine wp_swE (2) (pt := 141) rfl (by decide) rfl rfl (fun q_455 => ?_) (fun q_455 => ?_)
                          · skip
                            exfalso; omega
                          refine wp_swE (3) (pt := 144) rfl (by decide) rfl rfl (fun q_456 => ?_) (fun q_456 => ?_)
                          · skip
                            exfalso; omega
                          refine wp_swE (4) (pt := 150) rfl (by decide) rfl rfl (fun q_457 => ?_) (fun q_457 => ?_)
                          · skip
                            refine wp_aload_n (pc' := 151) rfl rfl rfl (by decide) ?_
                            refine wp_iload_n (pc' := 152) rfl rfl rfl ?_
                            refine wp_aload_n (pc' := 153) rfl rfl rfl (by decide) ?_
                            refine wp_getR (r' := 109) (ci := 10) (k0 := 15) (pc' := 156) rfl rfl (by decide) (by first | assumption | rfl) (hT.get 107 rfl) ?_
                            refine wp_iconst (a := 0) (pc' := 157) rfl rfl rfl ?_
                            refine wp_iaload (pc' := 158) rfl rfl (by first | assumption | rfl) (by omega) ?_
                            refine wp_call (pc' := 161) rfl rfl rfl rfl rfl ⟨Nat.le_of_ble_eq_true rfl, Nat.le_of_ble_eq_true rfl, Nat.le_of_ble_eq_true rfl, Nat.le_of_ble_eq_true rfl, Nat.le_of_ble_eq_true rfl⟩ rfl (c_Mod_gainOn hpr.2.1.1 (by omega) hT hxm hxh) ?_
                            intro v1 w9 hq1
                            rw [hq1.1, hq1.2]
                            clear hq1 v1 w9
                            rw [b11, hhi.1, hhi.2.1, m0]
                            dsimp only [Option.toList, List.cons_append, List.nil_append, List.append_nil]
                            refine wp_bipush (a := 9) (pc' := 163) rfl rfl rfl ?_
                            refine wp_iload (pc' := 165) rfl rfl rfl ?_
                            refine wp_isub (pc' := 166) rfl rfl (by first | exact w32_id (by omega) (by omega) | rfl) ?_
                            refine wp_isub (pc' := 167) rfl rfl (by first | exact w32_id (by omega) (by omega) | rfl) ?_
                            refine wp_istore (pc' := 169) rfl rfl (Nat.le_of_ble_eq_true rfl) rfl ?_
                            dsimp only [lset, lset2, List.set, List.getElem?_cons_zero, List.getElem?_cons_succ]
                            refine wp_iload (pc' := 171) rfl rfl rfl ?_
                            refine wp_if_le (pc' := 174) (pt := 179) rfl rfl rfl (fun q_458 => ?_) (fun q_458 => ?_)
                            · skip
                              refine wp_iconst (a := 0) (pc' := 180) rfl rfl rfl ?_
                              refine wp_ret rfl rfl rfl ?_
                              first
                              | (exfalso; omega)
                              | (refine ⟨congrArg (fun z => some (vI z)) ?_, rfl, hI⟩
                                 first
                                 | rfl
                                 | (unfold sNorth at *; rw [m0, hhi.2.1, b11] at *; (repeat' split at *) <;> omega)
                                 | (rw [b10, b11, b12, m0, m1]
                                    refine sumI_congr (fun j a b => ?_)
                                    unfold fSil
                                    rw [fVote_congr (K := w 107) (H := fun i => w 109 (3 + i)) (K' := w 4) (H' := w 5) (hpr.2.2.2.2 j a b).1 (hpr.2.2.2.2 j a b).2.1])
                                 | (rw [b11, b12, hhi.1, hhi.2.1])
                                 | (split <;> omega)
                                 | omega)
                            · skip
                              refine wp_iload (pc' := 176) rfl rfl rfl ?_
                              refine wp_goto (pc' := 180) rfl rfl ?_
                              refine wp_ret rfl rfl rfl ?_
                              first
                              | (exfalso; omega)
                              | (refine ⟨congrArg (fun z => some (vI z)) ?_, rfl, hI⟩
                                 first
                                 | rfl
                                 | (unfold sNorth at *; rw [m0, hhi.2.1, b11] at *; (repeat' split at *) <;> omega)
                                 | (rw [b10, b11, b12, m0, m1]
                                    refine sumI_congr (fun j a b => ?_)
                                    unfold fSil
                                    rw [fVote_congr (K := w 107) (H := fun i => w 109 (3 + i)) (K' := w 4) (H' := w 5) (hpr.2.2.2.2 j a b).1 (hpr.2.2.2.2 j a b).2.1])
                                 | (rw [b11, b12, hhi.1, hhi.2.1])
                                 | (split <;> omega)
                                 | omega)
                          refine wp_swOut (pc' := 181) rfl (by omega) rfl ?_
                          exfalso; omega
                        · skip
                          exfalso
                          (repeat' split at hof) <;> omega
              · skip
                rw [hv1, hw9]
                clear hv1 hw9 v1 w9
                dsimp only [Option.toList, List.cons_append, List.nil_append, List.append_nil]
                refine wp_if_ne (pc' := 17) (pt := 19) rfl rfl rfl (fun q_459 => absurd q_459 (by decide)) (fun q_459 => ?_)
                refine wp_iconst (a := -1) (pc' := 18) rfl rfl rfl ?_
                refine wp_ret rfl rfl rfl ?_
                first
                | (exfalso; omega)
                | (refine ⟨congrArg (fun z => some (vI z)) ?_, rfl, hI⟩
                   first
                   | rfl
                   | (unfold sNorth at *; rw [m0, hhi.2.1, b11] at *; (repeat' split at *) <;> omega)
                   | (rw [b10, b11, b12, m0, m1]
                      refine sumI_congr (fun j a b => ?_)
                      unfold fSil
                      rw [fVote_congr (K := w 107) (H := fun i => w 109 (3 + i)) (K' := w 4) (H' := w 5) (hpr.2.2.2.2 j a b).1 (hpr.2.2.2.2 j a b).2.1])
                   | (rw [b11, b12, hhi.1, hhi.2.1])
                   | (split <;> omega)
                   | omega)
            · skip
              rw [hv1, hw9]
              clear hv1 hw9 v1 w9
              dsimp only [Option.toList, List.cons_append, List.nil_append, List.append_nil]
              refine wp_if_eq (pc' := 8) (pt := 17) rfl rfl rfl (fun q_460 => ?_) (fun q_460 => absurd (by decide) q_460)
              refine wp_iconst (a := -1) (pc' := 18) rfl rfl rfl ?_
              refine wp_ret rfl rfl rfl ?_
              first
              | (exfalso; omega)
              | (refine ⟨congrArg (fun z => some (vI z)) ?_, rfl, hI⟩
                 first
                 | rfl
                 | (unfold sNorth at *; rw [m0, hhi.2.1, b11] at *; (repeat' split at *) <;> omega)
                 | (rw [b10, b11, b12, m0, m1]
                    refine sumI_congr (fun j a b => ?_)
                    unfold fSil
                    rw [fVote_congr (K := w 107) (H := fun i => w 109 (3 + i)) (K' := w 4) (H' := w 5) (hpr.2.2.2.2 j a b).1 (hpr.2.2.2.2 j a b).2.1])
                 | (rw [b11, b12, hhi.1, hhi.2.1])
                 | (split <;> omega)
                 | omega)
          refine wp_swOut (pc' := 163) rfl (by omega) rfl ?_
          refine wp_aload_n (pc' := 164) rfl rfl rfl (by decide) ?_
          refine wp_getR (r' := 3) (ci := 9) (k0 := 2) (pc' := 167) rfl rfl (by decide) (by first | assumption | rfl) (hT.get 2 rfl) ?_
          refine wp_iload_n (pc' := 168) rfl rfl rfl ?_
          refine wp_call (pc' := 171) rfl rfl rfl rfl rfl ⟨Nat.le_of_ble_eq_true rfl, Nat.le_of_ble_eq_true rfl, Nat.le_of_ble_eq_true rfl, Nat.le_of_ble_eq_true rfl, Nat.le_of_ble_eq_true rfl⟩ rfl (c_Land_gainful hT hpr.1 ho) ?_
          intro v1 w9 hq1
          rw [hq1.1, hq1.2]
          clear hq1 v1 w9
          dsimp only [Option.toList, List.cons_append, List.nil_append, List.append_nil]
          refine wp_ret rfl rfl rfl ?_
          refine ⟨_, rfl, ?_, ?_⟩
          · rfl
          refine wp_aload_n (pc' := 1) rfl rfl rfl (by decide) ?_
          refine wp_iload_n (pc' := 2) rfl rfl rfl ?_
          refine wp_call (pc' := 5) rfl rfl rfl rfl rfl ⟨Nat.le_of_ble_eq_true rfl, Nat.le_of_ble_eq_true rfl, Nat.le_of_ble_eq_true rfl, Nat.le_of_ble_eq_true rfl, Nat.le_of_ble_eq_true rfl⟩ rfl (c_Mod_isOne (by omega)) ?_
          rintro v1 w9 ⟨hw9, ⟨hv1, ho2⟩ | ⟨hv1, ho2⟩⟩
          · skip
            rw [hv1, hw9]
            clear hv1 hw9 v1 w9
            dsimp only [Option.toList, List.cons_append, List.nil_append, List.append_nil]
            refine wp_if_eq (pc' := 8) (pt := 17) rfl rfl rfl (fun q_511 => absurd q_511 (by decide)) (fun q_511 => ?_)
            refine wp_iload_n (pc' := 9) rfl rfl rfl ?_
            refine wp_iconst (a := 1) (pc' := 10) rfl rfl rfl ?_
            refine wp_iconst (a := 5) (pc' := 11) rfl rfl rfl ?_
            refine wp_call (pc' := 14) rfl rfl rfl rfl rfl ⟨Nat.le_of_ble_eq_true rfl, Nat.le_of_ble_eq_true rfl, Nat.le_of_ble_eq_true rfl, Nat.le_of_ble_eq_true rfl, Nat.le_of_ble_eq_true rfl⟩ rfl (c_Mod_in) ?_
            rintro v1 w9 ⟨hw9, ⟨hv1, hin⟩ | ⟨hv1, hin⟩⟩
            · skip
              rw [hv1, hw9]
              clear hv1 hw9 v1 w9
              dsimp only [Option.toList, List.cons_append, List.nil_append, List.append_nil]
              refine wp_if_ne (pc' := 17) (pt := 19) rfl rfl rfl (fun q_512 => ?_) (fun q_512 => absurd (by decide) q_512)
              have hk4 : w 107 i = w 4 i := hhi.1
              unfold sWider at hof
              refine wp_aload_n (pc' := 20) rfl rfl rfl (by decide) ?_
              refine wp_getR (r' := 107) (ci := 10) (k0 := 13) (pc' := 23) rfl rfl (by decide) (by first | assumption | rfl) (hT.get 105 rfl) ?_
              refine wp_iload_n (pc' := 24) rfl rfl rfl ?_
              refine wp_iaload (pc' := 25) rfl rfl (by first | assumption | rfl) (by omega) ?_
              refine wp_istore_n (pc' := 26) rfl rfl (Nat.le_of_ble_eq_true rfl) rfl ?_
              dsimp only [lset, lset2, List.set, List.getElem?_cons_zero, List.getElem?_cons_succ]
              refine wp_iload_n (pc' := 27) rfl rfl rfl ?_
              refine wp_iload_n (pc' := 28) rfl rfl rfl ?_
              refine wp_icmp_eq (pc' := 31) (pt := 57) rfl rfl rfl (fun q_513 => ?_) (fun q_513 => ?_)
              · skip
                refine wp_aload_n (pc' := 58) rfl rfl rfl (by decide) ?_
                refine wp_aload_n (pc' := 59) rfl rfl rfl (by decide) ?_
                refine wp_getR (r' := 109) (ci := 10) (k0 := 15) (pc' := 62) rfl rfl (by decide) (by first | assumption | rfl) (hT.get 107 rfl) ?_
                refine wp_iconst (a := 3) (pc' := 63) rfl rfl rfl ?_
                refine wp_iload_n (pc' := 64) rfl rfl rfl ?_
                refine wp_iadd (pc' := 65) rfl rfl (by first | exact w32_id (by omega) (by omega) | rfl) ?_
                refine wp_iaload (pc' := 66) rfl rfl (by first | assumption | rfl) (by omega) ?_
                refine wp_aload_n (pc' := 67) rfl rfl rfl (by decide) ?_
                refine wp_getR (r' := 109) (ci := 10) (k0 := 15) (pc' := 70) rfl rfl (by decide) (by first | assumption | rfl) (hT.get 107 rfl) ?_
                refine wp_iconst (a := 0) (pc' := 71) rfl rfl rfl ?_
                refine wp_iaload (pc' := 72) rfl rfl (by first | assumption | rfl) (by omega) ?_
                refine wp_call (pc' := 75) rfl rfl rfl rfl rfl ⟨Nat.le_of_ble_eq_true rfl, Nat.le_of_ble_eq_true rfl, Nat.le_of_ble_eq_true rfl, Nat.le_of_ble_eq_true rfl, Nat.le_of_ble_eq_true rfl⟩ rfl (c_Mod_far hpr.2.1.1 hxh hxm) ?_
                intro v1 w9 hq1
                rw [hq1.1, hq1.2]
                clear hq1 v1 w9
                rw [b11, m0, hhi.2.1, sFar_comm]
                dsimp only [Option.toList, List.cons_append, List.nil_append, List.append_nil]
                refine wp_istore (pc' := 77) rfl rfl (Nat.le_of_ble_eq_true rfl) rfl ?_
                dsimp only [lset, lset2, List.set, List.getElem?_cons_zero, List.getElem?_cons_succ]
                refine wp_iload_n (pc' := 78) rfl rfl rfl ?_
                refine wp_swE (1) (pt := 108) rfl (by decide) rfl rfl (fun q_514 => ?_) (fun q_514 => ?_)
                · skip
                  exfalso; omega
                refine wp_swE (2) (pt := 141) rfl (by decide) rfl rfl (fun q_515 => ?_) (fun q_515 => ?_)
                · skip
                  exfalso; omega
                refine wp_swE (3) (pt := 144) rfl (by decide) rfl rfl (fun q_516 => ?_) (fun q_516 => ?_)
                · skip
                  exfalso; omega
                refine wp_swE (4) (pt := 150) rfl (by decide) rfl rfl (fun q_517 => ?_) (fun q_517 => ?_)
                · skip
                  exfalso; omega
                refine wp_swOut (pc' := 181) rfl (by omega) rfl ?_
                refine wp_aload_n (pc' := 182) rfl rfl rfl (by decide) ?_
                refine wp_iload_n (pc' := 183) rfl rfl rfl ?_
                refine wp_call (pc' := 186) rfl rfl rfl rfl rfl ⟨Nat.le_of_ble_eq_true rfl, Nat.le_of_ble_eq_true rfl, Nat.le_of_ble_eq_true rfl, Nat.le_of_ble_eq_true rfl, Nat.le_of_ble_eq_true rfl⟩ rfl (c_Mod_cellsOf hT hpr.2.1 (by omega)) ?_
                intro v1 w9 hq1
                rw [hq1.1, hq1.2]
                clear hq1 v1 w9
                dsimp only [Option.toList, List.cons_append, List.nil_append, List.append_nil]
                refine wp_ret rfl rfl rfl ?_
                first
                | (exfalso; omega)
                | (refine ⟨congrArg (fun z => some (vI z)) ?_, rfl, hI⟩
                   first
                   | rfl
                   | (unfold sNorth at *; rw [m0, hhi.2.1, b11] at *; (repeat' split at *) <;> omega)
                   | (rw [b10, b11, b12, m0, m1]
                      refine sumI_congr (fun j a b => ?_)
                      unfold fSil
                      rw [fVote_congr (K := w 107) (H := fun i => w 109 (3 + i)) (K' := w 4) (H' := w 5) (hpr.2.2.2.2 j a b).1 (hpr.2.2.2.2 j a b).2.1])
                   | (rw [b11, b12, hhi.1, hhi.2.1])
                   | (split <;> omega)
                   | omega)
              · skip
                refine wp_iload_n (pc' := 32) rfl rfl rfl ?_
                refine wp_iconst (a := 2) (pc' := 33) rfl rfl rfl ?_
                refine wp_icmp_ne (pc' := 36) (pt := 41) rfl rfl rfl (fun q_518 => ?_) (fun q_518 => ?_)
                · skip
                  refine wp_iload_n (pc' := 42) rfl rfl rfl ?_
                  refine wp_iconst (a := 3) (pc' := 43) rfl rfl rfl ?_
                  refine wp_icmp_ne (pc' := 46) (pt := 51) rfl rfl rfl (fun q_519 => ?_) (fun q_519 => ?_)
                  · skip
                    exfalso
                    (repeat' split at hof) <;> omega
                  · skip
                    refine wp_iload_n (pc' := 47) rfl rfl rfl ?_
                    refine wp_iconst (a := 5) (pc' := 48) rfl rfl rfl ?_
                    refine wp_icmp_eq (pc' := 51) (pt := 57) rfl rfl rfl (fun q_520 => ?_) (fun q_520 => ?_)
                    · skip
                      refine wp_aload_n (pc' := 58) rfl rfl rfl (by decide) ?_
                      refine wp_aload_n (pc' := 59) rfl rfl rfl (by decide) ?_
                      refine wp_getR (r' := 109) (ci := 10) (k0 := 15) (pc' := 62) rfl rfl (by decide) (by first | assumption | rfl) (hT.get 107 rfl) ?_
                      refine wp_iconst (a := 3) (pc' := 63) rfl rfl rfl ?_
                      refine wp_iload_n (pc' := 64) rfl rfl rfl ?_
                      refine wp_iadd (pc' := 65) rfl rfl (by first | exact w32_id (by omega) (by omega) | rfl) ?_
                      refine wp_iaload (pc' := 66) rfl rfl (by first | assumption | rfl) (by omega) ?_
                      refine wp_aload_n (pc' := 67) rfl rfl rfl (by decide) ?_
                      refine wp_getR (r' := 109) (ci := 10) (k0 := 15) (pc' := 70) rfl rfl (by decide) (by first | assumption | rfl) (hT.get 107 rfl) ?_
                      refine wp_iconst (a := 0) (pc' := 71) rfl rfl rfl ?_
                      refine wp_iaload (pc' := 72) rfl rfl (by first | assumption | rfl) (by omega) ?_
                      refine wp_call (pc' := 75) rfl rfl rfl rfl rfl ⟨Nat.le_of_ble_eq_true rfl, Nat.le_of_ble_eq_true rfl, Nat.le_of_ble_eq_true rfl, Nat.le_of_ble_eq_true rfl, Nat.le_of_ble_eq_true rfl⟩ rfl (c_Mod_far hpr.2.1.1 hxh hxm) ?_
                      intro v1 w9 hq1
                      rw [hq1.1, hq1.2]
                      clear hq1 v1 w9
                      rw [b11, m0, hhi.2.1, sFar_comm]
                      dsimp only [Option.toList, List.cons_append, List.nil_append, List.append_nil]
                      refine wp_istore (pc' := 77) rfl rfl (Nat.le_of_ble_eq_true rfl) rfl ?_
                      dsimp only [lset, lset2, List.set, List.getElem?_cons_zero, List.getElem?_cons_succ]
                      refine wp_iload_n (pc' := 78) rfl rfl rfl ?_
                      refine wp_swE (1) (pt := 108) rfl (by decide) rfl rfl (fun q_521 => ?_) (fun q_521 => ?_)
                      · skip
                        exfalso; omega
                      refine wp_swE (2) (pt := 141) rfl (by decide) rfl rfl (fun q_522 => ?_) (fun q_522 => ?_)
                      · skip
                        exfalso; omega
                      refine wp_swE (3) (pt := 144) rfl (by decide) rfl rfl (fun q_523 => ?_) (fun q_523 => ?_)
                      · skip
                        exfalso; omega
                      refine wp_swE (4) (pt := 150) rfl (by decide) rfl rfl (fun q_524 => ?_) (fun q_524 => ?_)
                      · skip
                        exfalso; omega
                      refine wp_swOut (pc' := 181) rfl (by omega) rfl ?_
                      refine wp_aload_n (pc' := 182) rfl rfl rfl (by decide) ?_
                      refine wp_iload_n (pc' := 183) rfl rfl rfl ?_
                      refine wp_call (pc' := 186) rfl rfl rfl rfl rfl ⟨Nat.le_of_ble_eq_true rfl, Nat.le_of_ble_eq_true rfl, Nat.le_of_ble_eq_true rfl, Nat.le_of_ble_eq_true rfl, Nat.le_of_ble_eq_true rfl⟩ rfl (c_Mod_cellsOf hT hpr.2.1 (by omega)) ?_
                      intro v1 w9 hq1
                      rw [hq1.1, hq1.2]
                      clear hq1 v1 w9
                      dsimp only [Option.toList, List.cons_append, List.nil_append, List.append_nil]
                      refine wp_ret rfl rfl rfl ?_
                      first
                      | (exfalso; omega)
                      | (refine ⟨congrArg (fun z => some (vI z)) ?_, rfl, hI⟩
                         first
                         | rfl
                         | (unfold sNorth at *; rw [m0, hhi.2.1, b11] at *; (repeat' split at *) <;> omega)
                         | (rw [b10, b11, b12, m0, m1]
                            refine sumI_congr (fun j a b => ?_)
                            unfold fSil
                            rw [fVote_congr (K := w 107) (H := fun i => w 109 (3 + i)) (K' := w 4) (H' := w 5) (hpr.2.2.2.2 j a b).1 (hpr.2.2.2.2 j a b).2.1])
                         | (rw [b11, b12, hhi.1, hhi.2.1])
                         | (split <;> omega)
                         | omega)
                    · skip
                      exfalso
                      (repeat' split at hof) <;> omega
                · skip
                  refine wp_iload_n (pc' := 37) rfl rfl rfl ?_
                  refine wp_iconst (a := 4) (pc' := 38) rfl rfl rfl ?_
                  refine wp_icmp_eq (pc' := 41) (pt := 57) rfl rfl rfl (fun q_525 => ?_) (fun q_525 => ?_)
                  · skip
                    refine wp_aload_n (pc' := 58) rfl rfl rfl (by decide) ?_
                    refine wp_aload_n (pc' := 59) rfl rfl rfl (by decide) ?_
                    refine wp_getR (r' := 109) (ci := 10) (k0 := 15) (pc' := 62) rfl rfl (by decide) (by first | assumption | rfl) (hT.get 107 rfl) ?_
                    refine wp_iconst (a := 3) (pc' := 63) rfl rfl rfl ?_
                    refine wp_iload_n (pc' := 64) rfl rfl rfl ?_
                    refine wp_iadd (pc' := 65) rfl rfl (by first | exact w32_id (by omega) (by omega) | rfl) ?_
                    refine wp_iaload (pc' := 66) rfl rfl (by first | assumption | rfl) (by omega) ?_
                    refine wp_aload_n (pc' := 67) rfl rfl rfl (by decide) ?_
                    refine wp_getR (r' := 109) (ci := 10) (k0 := 15) (pc' := 70) rfl rfl (by decide) (by first | assumption | rfl) (hT.get 107 rfl) ?_
                    refine wp_iconst (a := 0) (pc' := 71) rfl rfl rfl ?_
                    refine wp_iaload (pc' := 72) rfl rfl (by first | assumption | rfl) (by omega) ?_
                    refine wp_call (pc' := 75) rfl rfl rfl rfl rfl ⟨Nat.le_of_ble_eq_true rfl, Nat.le_of_ble_eq_true rfl, Nat.le_of_ble_eq_true rfl, Nat.le_of_ble_eq_true rfl, Nat.le_of_ble_eq_true rfl⟩ rfl (c_Mod_far hpr.2.1.1 hxh hxm) ?_
                    intro v1 w9 hq1
                    rw [hq1.1, hq1.2]
                    clear hq1 v1 w9
                    rw [b11, m0, hhi.2.1, sFar_comm]
                    dsimp only [Option.toList, List.cons_append, List.nil_append, List.append_nil]
                    refine wp_istore (pc' := 77) rfl rfl (Nat.le_of_ble_eq_true rfl) rfl ?_
                    dsimp only [lset, lset2, List.set, List.getElem?_cons_zero, List.getElem?_cons_succ]
                    refine wp_iload_n (pc' := 78) rfl rfl rfl ?_
                    refine wp_swE (1) (pt := 108) rfl (by decide) rfl rfl (fun q_526 => ?_) (fun q_526 => ?_)
                    · skip
                      exfalso; omega
                    refine wp_swE (2) (pt := 141) rfl (by decide) rfl rfl (fun q_527 => ?_) (fun q_527 => ?_)
                    · skip
                      exfalso; omega
                    refine wp_swE (3) (pt := 144) rfl (by decide) rfl rfl (fun q_528 => ?_) (fun q_528 => ?_)
                    · skip
                      exfalso; omega
                    refine wp_swE (4) (pt := 150) rfl (by decide) rfl rfl (fun q_529 => ?_) (fun q_529 => ?_)
                    · skip
                      exfalso; omega
                    refine wp_swOut (pc' := 181) rfl (by omega) rfl ?_
                    refine wp_aload_n (pc' := 182) rfl rfl rfl (by decide) ?_
                    refine wp_iload_n (pc' := 183) rfl rfl rfl ?_
                    refine wp_call (pc' := 186) rfl rfl rfl rfl rfl ⟨Nat.le_of_ble_eq_true rfl, Nat.le_of_ble_eq_true rfl, Nat.le_of_ble_eq_true rfl, Nat.le_of_ble_eq_true rfl, Nat.le_of_ble_eq_true rfl⟩ rfl (c_Mod_cellsOf hT hpr.2.1 (by omega)) ?_
                    intro v1 w9 hq1
                    rw [hq1.1, hq1.2]
                    clear hq1 v1 w9
                    dsimp only [Option.toList, List.cons_append, List.nil_append, List.append_nil]
                    refine wp_ret rfl rfl rfl ?_
                    first
                    | (exfalso; omega)
                    | (refine ⟨congrArg (fun z => some (vI z)) ?_, rfl, hI⟩
                       first
                       | rfl
                       | (unfold sNorth at *; rw [m0, hhi.2.1, b11] at *; (repeat' split at *) <;> omega)
                       | (rw [b10, b11, b12, m0, m1]
                          refine sumI_congr (fun j a b => ?_)
                          unfold fSil
                          rw [fVote_congr (K := w 107) (H := fun i => w 109 (3 + i)) (K' := w 4) (H' := w 5) (hpr.2.2.2.2 j a b).1 (hpr.2.2.2.2 j a b).2.1])
                       | (rw [b11, b12, hhi.1, hhi.2.1])
                       | (split <;> omega)
                       | omega)
                  · skip
                    refine wp_iload_n (pc' := 42) rfl rfl rfl ?_
                    refine wp_iconst (a := 3) (pc' := 43) rfl rfl rfl ?_
                    refine wp_icmp_ne (pc' := 46) (pt := 51) rfl rfl rfl (fun q_530 => ?_) (fun q_530 => ?_)
                    · skip
                      exfalso
                      (repeat' split at hof) <;> omega
                    · skip
                      refine wp_iload_n (pc' := 47) rfl rfl rfl ?_
                      refine wp_iconst (a := 5) (pc' := 48) rfl rfl rfl ?_
                      refine wp_icmp_eq (pc' := 51) (pt := 57) rfl rfl rfl (fun q_531 => ?_) (fun q_531 => ?_)
                      · skip
                        refine wp_aload_n (pc' := 58) rfl rfl rfl (by decide) ?_
                        refine wp_aload_n (pc' := 59) rfl rfl rfl (by decide) ?_
                        refine wp_getR (r' := 109) (ci := 10) (k0 := 15) (pc' := 62) rfl rfl (by decide) (by first | assumption | rfl) (hT.get 107 rfl) ?_
                        refine wp_iconst (a := 3) (pc' := 63) rfl rfl rfl ?_
                        refine wp_iload_n (pc' := 64) rfl rfl rfl ?_
                        refine wp_iadd (pc' := 65) rfl rfl (by first | exact w32_id (by omega) (by omega) | rfl) ?_
                        refine wp_iaload (pc' := 66) rfl rfl (by first | assumption | rfl) (by omega) ?_
                        refine wp_aload_n (pc' := 67) rfl rfl rfl (by decide) ?_
                        refine wp_getR (r' := 109) (ci := 10) (k0 := 15) (pc' := 70) rfl rfl (by decide) (by first | assumption | rfl) (hT.get 107 rfl) ?_
                        refine wp_iconst (a := 0) (pc' := 71) rfl rfl rfl ?_
                        refine wp_iaload (pc' := 72) rfl rfl (by first | assumption | rfl) (by omega) ?_
                        refine wp_call (pc' := 75) rfl rfl rfl rfl rfl ⟨Nat.le_of_ble_eq_true rfl, Nat.le_of_ble_eq_true rfl, Nat.le_of_ble_eq_true rfl, Nat.le_of_ble_eq_true rfl, Nat.le_of_ble_eq_true rfl⟩ rfl (c_Mod_far hpr.2.1.1 hxh hxm) ?_
                        intro v1 w9 hq1
                        rw [hq1.1, hq1.2]
                        clear hq1 v1 w9
                        rw [b11, m0, hhi.2.1, sFar_comm]
                        dsimp only [Option.toList, List.cons_append, List.nil_append, List.append_nil]
                        refine wp_istore (pc' := 77) rfl rfl (Nat.le_of_ble_eq_true rfl) rfl ?_
                        dsimp only [lset, lset2, List.set, List.getElem?_cons_zero, List.getElem?_cons_succ]
                        refine wp_iload_n (pc' := 78) rfl rfl rfl ?_
                        refine wp_swE (1) (pt := 108) rfl (by decide) rfl rfl (fun q_532 => ?_) (fun q_532 => ?_)
                        · skip
                          exfalso; omega
                        refine wp_swE (2) (pt := 141) rfl (by decide) rfl rfl (fun q_533 => ?_) (fun q_533 => ?_)
                        · skip
                          exfalso; omega
                        refine wp_swE (3) (pt := 144) rfl (by decide) rfl rfl (fun q_534 => ?_) (fun q_534 => ?_)
                        · skip
                          exfalso; omega
                        refine wp_swE (4) (pt := 150) rfl (by decide) rfl rfl (fun q_535 => ?_) (fun q_535 => ?_)
                        · skip
                          exfalso; omega
                        refine wp_swOut (pc' := 181) rfl (by omega) rfl ?_
                        refine wp_aload_n (pc' := 182) rfl rfl rfl (by decide) ?_
                        refine wp_iload_n (pc' := 183) rfl rfl rfl ?_
                        refine wp_call (pc' := 186) rfl rfl rfl rfl rfl ⟨Nat.le_of_ble_eq_true rfl, Nat.le_of_ble_eq_true rfl, Nat.le_of_ble_eq_true rfl, Nat.le_of_ble_eq_true rfl, Nat.le_of_ble_eq_true rfl⟩ rfl (c_Mod_cellsOf hT hpr.2.1 (by omega)) ?_
                        intro v1 w9 hq1
                        rw [hq1.1, hq1.2]
                        clear hq1 v1 w9
                        dsimp only [Option.toList, List.cons_append, List.nil_append, List.append_nil]
                        refine wp_ret rfl rfl rfl ?_
                        first
                        | (exfalso; omega)
                        | (refine ⟨congrArg (fun z => some (vI z)) ?_, rfl, hI⟩
                           first
                           | rfl
                           | (unfold sNorth at *; rw [m0, hhi.2.1, b11] at *; (repeat' split at *) <;> omega)
                           | (rw [b10, b11, b12, m0, m1]
                              refine sumI_congr (fun j a b => ?_)
                              unfold fSil
                              rw [fVote_congr (K := w 107) (H := fun i => w 109 (3 + i)) (K' := w 4) (H' := w 5) (hpr.2.2.2.2 j a b).1 (hpr.2.2.2.2 j a b).2.1])
                           | (rw [b11, b12, hhi.1, hhi.2.1])
                           | (split <;> omega)
                           | omega)
                      · skip
                        exfalso
                        (repeat' split at hof) <;> omega
            · skip
              rw [hv1, hw9]
              clear hv1 hw9 v1 w9
              dsimp only [Option.toList, List.cons_append, List.nil_append, List.append_nil]
              refine wp_if_ne (pc' := 17) (pt := 19) rfl rfl rfl (fun q_536 => absurd q_536 (by decide)) (fun q_536 => ?_)
              refine wp_iconst (a := -1) (pc' := 18) rfl rfl rfl ?_
              refine wp_ret rfl rfl rfl ?_
              first
              | (exfalso; omega)
              | (refine ⟨congrArg (fun z => some (vI z)) ?_, rfl, hI⟩
                 first
                 | rfl
                 | (unfold sNorth at *; rw [m0, hhi.2.1, b11] at *; (repeat' split at *) <;> omega)
                 | (rw [b10, b11, b12, m0, m1]
                    refine sumI_congr (fun j a b => ?_)
                    unfold fSil
                    rw [fVote_congr (K := w 107) (H := fun i => w 109 (3 + i)) (K' := w 4) (H' := w 5) (hpr.2.2.2.2 j a b).1 (hpr.2.2.2.2 j a b).2.1])
                 | (rw [b11, b12, hhi.1, hhi.2.1])
                 | (split <;> omega)
                 | omega)
          · skip
            rw [hv1, hw9]
            clear hv1 hw9 v1 w9
            dsimp only [Option.toList, List.cons_append, List.nil_append, List.append_nil]
            refine wp_if_eq (pc' := 8) (pt := 17) rfl rfl rfl (fun q_537 => ?_) (fun q_537 => absurd (by decide) q_537)
            refine wp_iconst (a := -1) (pc' := 18) rfl rfl rfl ?_
            refine wp_ret rfl rfl rfl ?_
            first
            | (exfalso; omega)
            | (refine ⟨congrArg (fun z => some (vI z)) ?_, rfl, hI⟩
               first
               | rfl
               | (unfold sNorth at *; rw [m0, hhi.2.1, b11] at *; (repeat' split at *) <;> omega)
               | (rw [b10, b11, b12, m0, m1]
                  refine sumI_congr (fun j a b => ?_)
                  unfold fSil
                  rw [fVote_congr (K := w 107) (H := fun i => w 109 (3 + i)) (K' := w 4) (H' := w 5) (hpr.2.2.2.2 j a b).1 (hpr.2.2.2.2 j a b).2.1])
               | (rw [b11, b12, hhi.1, hhi.2.1])
               | (split <;> omega)
               | omega)
        · skip
          rw [hv1, hw9]
          clear hv1 hw9 v1 w9
          dsimp only [Option.toList, List.cons_append, List.nil_append, List.append_nil]
          refine wp_if_ne (pc' := 35) (pt := 41) rfl rfl rfl (fun q_538 => absurd q_538 (by decide)) (fun q_538 => ?_)
          refine wp_aload_n (pc' := 36) rfl rfl rfl (by decide) ?_
          refine wp_iconst (a := 3) (pc' := 37) rfl rfl rfl ?_
          refine wp_call (pc' := 40) rfl rfl rfl rfl rfl ⟨Nat.le_of_ble_eq_true rfl, Nat.le_of_ble_eq_true rfl, Nat.le_of_ble_eq_true rfl, Nat.le_of_ble_eq_true rfl, Nat.le_of_ble_eq_true rfl⟩ rfl (c_VH_refuse hT (by decide)) ?_
          intro v1 w9 hq1
          rw [hq1.1, hq1.2]
          clear hq1 v1 w9
          dsimp only [Option.toList, List.cons_append, List.nil_append, List.append_nil]
          refine wp_ret rfl rfl rfl ?_
          refine ⟨_, rfl, ?_, ?_⟩
          · rw [up_ne (by decide), up_ne (by decide)]
          change WP SH _ _ _ _ _ (refW w 3) _
          have hTr := refW_stc (f := 3) hT
          have ew : ∀ q : Int, q ≠ 0 → q ≠ 52 → refW w 3 q = w q := fun q a b => refW_ne a b
          refine wp_aload_n (pc' := 1) rfl rfl rfl (by decide) ?_
          refine wp_iload_n (pc' := 2) rfl rfl rfl ?_
          refine wp_call (pc' := 5) rfl rfl rfl rfl rfl ⟨Nat.le_of_ble_eq_true rfl, Nat.le_of_ble_eq_true rfl, Nat.le_of_ble_eq_true rfl, Nat.le_of_ble_eq_true rfl, Nat.le_of_ble_eq_true rfl⟩ rfl (c_Mod_isOne (by rw [ew 100 (by decide) (by decide)]; omega)) ?_
          rintro v1 w9 ⟨hw9, ⟨hv1, ho2⟩ | ⟨hv1, ho2⟩⟩
          · skip
            rw [hv1, hw9]
            clear hv1 hw9 v1 w9
            dsimp only [Option.toList, List.cons_append, List.nil_append, List.append_nil]
            refine wp_if_eq (pc' := 8) (pt := 17) rfl rfl rfl (fun q_589 => absurd q_589 (by decide)) (fun q_589 => ?_)
            refine wp_iload_n (pc' := 9) rfl rfl rfl ?_
            refine wp_iconst (a := 1) (pc' := 10) rfl rfl rfl ?_
            refine wp_iconst (a := 5) (pc' := 11) rfl rfl rfl ?_
            refine wp_call (pc' := 14) rfl rfl rfl rfl rfl ⟨Nat.le_of_ble_eq_true rfl, Nat.le_of_ble_eq_true rfl, Nat.le_of_ble_eq_true rfl, Nat.le_of_ble_eq_true rfl, Nat.le_of_ble_eq_true rfl⟩ rfl (c_Mod_in) ?_
            rintro v1 w9 ⟨hw9, ⟨hv1, hin⟩ | ⟨hv1, hin⟩⟩
            · skip
              rw [hv1, hw9]
              clear hv1 hw9 v1 w9
              dsimp only [Option.toList, List.cons_append, List.nil_append, List.append_nil]
              refine wp_if_ne (pc' := 17) (pt := 19) rfl rfl rfl (fun q_590 => ?_) (fun q_590 => absurd (by decide) q_590)
              have hT := hTr
              have e7 : refW w 3 107 = w 107 := ew 107 (by decide) (by decide)
              have hk4 : refW w 3 107 i = w 4 i := by rw [e7]; exact hhi.1
              unfold sWider at hof
              refine wp_aload_n (pc' := 20) rfl rfl rfl (by decide) ?_
              refine wp_getR (r' := 107) (ci := 10) (k0 := 13) (pc' := 23) rfl rfl (by decide) (by first | assumption | rfl) (hT.get 105 rfl) ?_
              refine wp_iload_n (pc' := 24) rfl rfl rfl ?_
              refine wp_iaload (pc' := 25) rfl rfl (by first | assumption | rfl) (by omega) ?_
              refine wp_istore_n (pc' := 26) rfl rfl (Nat.le_of_ble_eq_true rfl) rfl ?_
              dsimp only [lset, lset2, List.set, List.getElem?_cons_zero, List.getElem?_cons_succ]
              refine wp_iload_n (pc' := 27) rfl rfl rfl ?_
              refine wp_iload_n (pc' := 28) rfl rfl rfl ?_
              refine wp_icmp_eq (pc' := 31) (pt := 57) rfl rfl rfl (fun q_591 => ?_) (fun q_591 => ?_)
              · skip
                exfalso
                (repeat' split at hof) <;> omega
              · skip
                refine wp_iload_n (pc' := 32) rfl rfl rfl ?_
                refine wp_iconst (a := 2) (pc' := 33) rfl rfl rfl ?_
                refine wp_icmp_ne (pc' := 36) (pt := 41) rfl rfl rfl (fun q_592 => ?_) (fun q_592 => ?_)
                · skip
                  refine wp_iload_n (pc' := 42) rfl rfl rfl ?_
                  refine wp_iconst (a := 3) (pc' := 43) rfl rfl rfl ?_
                  refine wp_icmp_ne (pc' := 46) (pt := 51) rfl rfl rfl (fun q_593 => ?_) (fun q_593 => ?_)
                  · skip
                    refine wp_aload_n (pc' := 52) rfl rfl rfl (by decide) ?_
                    refine wp_iconst (a := 3) (pc' := 53) rfl rfl rfl ?_
                    refine wp_call (pc' := 56) rfl rfl rfl rfl rfl ⟨Nat.le_of_ble_eq_true rfl, Nat.le_of_ble_eq_true rfl, Nat.le_of_ble_eq_true rfl, Nat.le_of_ble_eq_true rfl, Nat.le_of_ble_eq_true rfl⟩ rfl (c_Mod_meets hTr (by decide)) ?_
                    intro v1 w9 hq1
                    rw [hq1.1, hq1.2]
                    clear hq1 v1 w9
                    dsimp only [Option.toList, List.cons_append, List.nil_append, List.append_nil]
                    refine wp_ret rfl rfl rfl ?_
                    first
                    | (exfalso; rw [ew 100 (by decide) (by decide)] at *; omega)
                    | exact ⟨rfl, by rw [up_ne (by decide), up_ne (by decide)]; rfl, refW_inv hI (by decide)⟩
                  · skip
                    refine wp_iload_n (pc' := 47) rfl rfl rfl ?_
                    refine wp_iconst (a := 5) (pc' := 48) rfl rfl rfl ?_
                    refine wp_icmp_eq (pc' := 51) (pt := 57) rfl rfl rfl (fun q_594 => ?_) (fun q_594 => ?_)
                    · skip
                      exfalso
                      (repeat' split at hof) <;> omega
                    · skip
                      refine wp_aload_n (pc' := 52) rfl rfl rfl (by decide) ?_
                      refine wp_iconst (a := 3) (pc' := 53) rfl rfl rfl ?_
                      refine wp_call (pc' := 56) rfl rfl rfl rfl rfl ⟨Nat.le_of_ble_eq_true rfl, Nat.le_of_ble_eq_true rfl, Nat.le_of_ble_eq_true rfl, Nat.le_of_ble_eq_true rfl, Nat.le_of_ble_eq_true rfl⟩ rfl (c_Mod_meets hTr (by decide)) ?_
                      intro v1 w9 hq1
                      rw [hq1.1, hq1.2]
                      clear hq1 v1 w9
                      dsimp only [Option.toList, List.cons_append, List.nil_append, List.append_nil]
                      refine wp_ret rfl rfl rfl ?_
                      first
                      | (exfalso; rw [ew 100 (by decide) (by decide)] at *; omega)
                      | exact ⟨rfl, by rw [up_ne (by decide), up_ne (by decide)]; rfl, refW_inv hI (by decide)⟩
                · skip
                  refine wp_iload_n (pc' := 37) rfl rfl rfl ?_
                  refine wp_iconst (a := 4) (pc' := 38) rfl rfl rfl ?_
                  refine wp_icmp_eq (pc' := 41) (pt := 57) rfl rfl rfl (fun q_595 => ?_) (fun q_595 => ?_)
                  · skip
                    exfalso
                    (repeat' split at hof) <;> omega
                  · skip
                    refine wp_iload_n (pc' := 42) rfl rfl rfl ?_
                    refine wp_iconst (a := 3) (pc' := 43) rfl rfl rfl ?_
                    refine wp_icmp_ne (pc' := 46) (pt := 51) rfl rfl rfl (fun q_596 => ?_) (fun q_596 => ?_)
                    · skip
                      refine wp_aload_n (pc' := 52) rfl rfl rfl (by decide) ?_
                      refine wp_iconst (a := 3) (pc' := 53) rfl rfl rfl ?_
                      refine wp_call (pc' := 56) rfl rfl rfl rfl rfl ⟨Nat.le_of_ble_eq_true rfl, Nat.le_of_ble_eq_true rfl, Nat.le_of_ble_eq_true rfl, Nat.le_of_ble_eq_true rfl, Nat.le_of_ble_eq_true rfl⟩ rfl (c_Mod_meets hTr (by decide)) ?_
                      intro v1 w9 hq1
                      rw [hq1.1, hq1.2]
                      clear hq1 v1 w9
                      dsimp only [Option.toList, List.cons_append, List.nil_append, List.append_nil]
                      refine wp_ret rfl rfl rfl ?_
                      first
                      | (exfalso; rw [ew 100 (by decide) (by decide)] at *; omega)
                      | exact ⟨rfl, by rw [up_ne (by decide), up_ne (by decide)]; rfl, refW_inv hI (by decide)⟩
                    · skip
                      refine wp_iload_n (pc' := 47) rfl rfl rfl ?_
                      refine wp_iconst (a := 5) (pc' := 48) rfl rfl rfl ?_
                      refine wp_icmp_eq (pc' := 51) (pt := 57) rfl rfl rfl (fun q_597 => ?_) (fun q_597 => ?_)
                      · skip
                        exfalso
                        (repeat' split at hof) <;> omega
                      · skip
                        refine wp_aload_n (pc' := 52) rfl rfl rfl (by decide) ?_
                        refine wp_iconst (a := 3) (pc' := 53) rfl rfl rfl ?_
                        refine wp_call (pc' := 56) rfl rfl rfl rfl rfl ⟨Nat.le_of_ble_eq_true rfl, Nat.le_of_ble_eq_true rfl, Nat.le_of_ble_eq_true rfl, Nat.le_of_ble_eq_true rfl, Nat.le_of_ble_eq_true rfl⟩ rfl (c_Mod_meets hTr (by decide)) ?_
                        intro v1 w9 hq1
                        rw [hq1.1, hq1.2]
                        clear hq1 v1 w9
                        dsimp only [Option.toList, List.cons_append, List.nil_append, List.append_nil]
                        refine wp_ret rfl rfl rfl ?_
                        first
                        | (exfalso; rw [ew 100 (by decide) (by decide)] at *; omega)
                        | exact ⟨rfl, by rw [up_ne (by decide), up_ne (by decide)]; rfl, refW_inv hI (by decide)⟩
            · skip
              rw [hv1, hw9]
              clear hv1 hw9 v1 w9
              dsimp only [Option.toList, List.cons_append, List.nil_append, List.append_nil]
              refine wp_if_ne (pc' := 17) (pt := 19) rfl rfl rfl (fun q_598 => absurd q_598 (by decide)) (fun q_598 => ?_)
              refine wp_iconst (a := -1) (pc' := 18) rfl rfl rfl ?_
              refine wp_ret rfl rfl rfl ?_
              first
              | (exfalso; rw [ew 100 (by decide) (by decide)] at *; omega)
              | exact ⟨rfl, by rw [up_ne (by decide), up_ne (by decide)]; rfl, refW_inv hI (by decide)⟩
          · skip
            rw [hv1, hw9]
            clear hv1 hw9 v1 w9
            dsimp only [Option.toList, List.cons_append, List.nil_append, List.append_nil]
            refine wp_if_eq (pc' := 8) (pt := 17) rfl rfl rfl (fun q_599 => ?_) (fun q_599 => absurd (by decide) q_599)
            refine wp_iconst (a := -1) (pc' := 18) rfl rfl rfl ?_
            refine wp_ret rfl rfl rfl ?_
            first
            | (exfalso; rw [ew 100 (by decide) (by decide)] at *; omega)
            | exact ⟨rfl, by rw [up_ne (by decide), up_ne (by decide)]; rfl, refW_inv hI (by decide)⟩
      · skip
        refine wp_iconst (a := -1) (pc' := 22) rfl rfl rfl ?_
        refine wp_ret rfl rfl rfl ?_
        refine ⟨_, rfl, ?_, ?_⟩
        · rfl
        refine wp_aload_n (pc' := 1) rfl rfl rfl (by decide) ?_
        refine wp_iload_n (pc' := 2) rfl rfl rfl ?_
        refine wp_call (pc' := 5) rfl rfl rfl rfl rfl ⟨Nat.le_of_ble_eq_true rfl, Nat.le_of_ble_eq_true rfl, Nat.le_of_ble_eq_true rfl, Nat.le_of_ble_eq_true rfl, Nat.le_of_ble_eq_true rfl⟩ rfl (c_Mod_isOne (by omega)) ?_
        rintro v1 w9 ⟨hw9, ⟨hv1, ho2⟩ | ⟨hv1, ho2⟩⟩
        · skip
          rw [hv1, hw9]
          clear hv1 hw9 v1 w9
          dsimp only [Option.toList, List.cons_append, List.nil_append, List.append_nil]
          refine wp_if_eq (pc' := 8) (pt := 17) rfl rfl rfl (fun q_650 => absurd q_650 (by decide)) (fun q_650 => ?_)
          refine wp_iload_n (pc' := 9) rfl rfl rfl ?_
          refine wp_iconst (a := 1) (pc' := 10) rfl rfl rfl ?_
          refine wp_iconst (a := 5) (pc' := 11) rfl rfl rfl ?_
          refine wp_call (pc' := 14) rfl rfl rfl rfl rfl ⟨Nat.le_of_ble_eq_true rfl, Nat.le_of_ble_eq_true rfl, Nat.le_of_ble_eq_true rfl, Nat.le_of_ble_eq_true rfl, Nat.le_of_ble_eq_true rfl⟩ rfl (c_Mod_in) ?_
          rintro v1 w9 ⟨hw9, ⟨hv1, hin⟩ | ⟨hv1, hin⟩⟩
          · skip
            rw [hv1, hw9]
            clear hv1 hw9 v1 w9
            dsimp only [Option.toList, List.cons_append, List.nil_append, List.append_nil]
            refine wp_if_ne (pc' := 17) (pt := 19) rfl rfl rfl (fun q_651 => ?_) (fun q_651 => absurd (by decide) q_651)
            exfalso; omega
          · skip
            rw [hv1, hw9]
            clear hv1 hw9 v1 w9
            dsimp only [Option.toList, List.cons_append, List.nil_append, List.append_nil]
            refine wp_if_ne (pc' := 17) (pt := 19) rfl rfl rfl (fun q_652 => absurd q_652 (by decide)) (fun q_652 => ?_)
            refine wp_iconst (a := -1) (pc' := 18) rfl rfl rfl ?_
            refine wp_ret rfl rfl rfl ?_
            first
            | (exfalso; omega)
            | exact ⟨rfl, rfl, hI⟩
        · skip
          rw [hv1, hw9]
          clear hv1 hw9 v1 w9
          dsimp only [Option.toList, List.cons_append, List.nil_append, List.append_nil]
          refine wp_if_eq (pc' := 8) (pt := 17) rfl rfl rfl (fun q_653 => ?_) (fun q_653 => absurd (by decide) q_653)
          refine wp_iconst (a := -1) (pc' := 18) rfl rfl rfl ?_
          refine wp_ret rfl rfl rfl ?_
          first
          | (exfalso; omega)
          | exact ⟨rfl, rfl, hI⟩
  · skip
    rw [hv1, hw9]
    clear hv1 hw9 v1 w9
    dsimp only [Option.toList, List.cons_append, List.nil_append, List.append_nil]
    refine wp_if_eq (pc' := 11) (pt := 21) rfl rfl rfl (fun q_654 => ?_) (fun q_654 => absurd (by decide) q_654)
    refine wp_iconst (a := -1) (pc' := 22) rfl rfl rfl ?_
    refine wp_ret rfl rfl rfl ?_
    refine ⟨_, rfl, ?_, ?_⟩
    · rfl
    refine wp_aload_n (pc' := 1) rfl rfl rfl (by decide) ?_
    refine wp_iload_n (pc' := 2) rfl rfl rfl ?_
    refine wp_call (pc' := 5) rfl rfl rfl rfl rfl ⟨Nat.le_of_ble_eq_true rfl, Nat.le_of_ble_eq_true rfl, Nat.le_of_ble_eq_true rfl, Nat.le_of_ble_eq_true rfl, Nat.le_of_ble_eq_true rfl⟩ rfl (c_Mod_isOne (by omega)) ?_
    rintro v1 w9 ⟨hw9, ⟨hv1, ho2⟩ | ⟨hv1, ho2⟩⟩
    · skip
      rw [hv1, hw9]
      clear hv1 hw9 v1 w9
      dsimp only [Option.toList, List.cons_append, List.nil_append, List.append_nil]
      refine wp_if_eq (pc' := 8) (pt := 17) rfl rfl rfl (fun q_705 => absurd q_705 (by decide)) (fun q_705 => ?_)
      refine wp_iload_n (pc' := 9) rfl rfl rfl ?_
      refine wp_iconst (a := 1) (pc' := 10) rfl rfl rfl ?_
      refine wp_iconst (a := 5) (pc' := 11) rfl rfl rfl ?_
      refine wp_call (pc' := 14) rfl rfl rfl rfl rfl ⟨Nat.le_of_ble_eq_true rfl, Nat.le_of_ble_eq_true rfl, Nat.le_of_ble_eq_true rfl, Nat.le_of_ble_eq_true rfl, Nat.le_of_ble_eq_true rfl⟩ rfl (c_Mod_in) ?_
      rintro v1 w9 ⟨hw9, ⟨hv1, hin⟩ | ⟨hv1, hin⟩⟩
      · skip
        rw [hv1, hw9]
        clear hv1 hw9 v1 w9
        dsimp only [Option.toList, List.cons_append, List.nil_append, List.append_nil]
        refine wp_if_ne (pc' := 17) (pt := 19) rfl rfl rfl (fun q_706 => ?_) (fun q_706 => absurd (by decide) q_706)
        exfalso; omega
      · skip
        rw [hv1, hw9]
        clear hv1 hw9 v1 w9
        dsimp only [Option.toList, List.cons_append, List.nil_append, List.append_nil]
        refine wp_if_ne (pc' := 17) (pt := 19) rfl rfl rfl (fun q_707 => absurd q_707 (by decide)) (fun q_707 => ?_)
        refine wp_iconst (a := -1) (pc' := 18) rfl rfl rfl ?_
        refine wp_ret rfl rfl rfl ?_
        first
        | (exfalso; omega)
        | exact ⟨rfl, rfl, hI⟩
    · skip
      rw [hv1, hw9]
      clear hv1 hw9 v1 w9
      dsimp only [Option.toList, List.cons_append, List.nil_append, List.append_nil]
      refine wp_if_eq (pc' := 8) (pt := 17) rfl rfl rfl (fun q_708 => ?_) (fun q_708 => absurd (by decide) q_708)
      refine wp_iconst (a := -1) (pc' := 18) rfl rfl rfl ?_
      refine wp_ret rfl rfl rfl ?_
      first
      | (exfalso; omega)
      | exact ⟨rfl, rfl, hI⟩
