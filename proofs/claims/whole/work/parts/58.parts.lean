/-! the greatest part by gains; the best of candidates -/
def fTl (set : Int) (f : Int → Int) (g : Int) : Int → Int := fun x => if bit set x = 1 ∧ f x = g then 1 else 0
theorem fTl01 (set : Int) (f : Int → Int) (g j : Int) : fTl set f g j = 0 ∨ fTl set f g j = 1 := by unfold fTl; split <;> simp
theorem fTl_congr {set n g : Int} {f f' : Int → Int} (h : ∀ j : Int, 0 ≤ j → j < n → f j = f' j) : sumI (fTl set f g) n = sumI (fTl set f' g) n := sumI_congr (fun j a b => by unfold fTl; rw [h j a b])
def maxN (f : Int → Int) : Nat → Int
  | 0 => 0
  | m + 1 => if maxN f m < f m then f m else maxN f m
theorem maxN_congr {f f' : Int → Int} : ∀ {m : Nat}, (∀ j : Int, 0 ≤ j → j < m → f j = f' j) → maxN f m = maxN f' m := by
  intro m
  induction m with
  | zero => intro _; rfl
  | succ m ih =>
    intro h
    unfold maxN
    rw [ih (fun j a b => h j a (by omega)), h m (by omega) (by omega)]
theorem maxN_bd {f : Int → Int} {B : Int} (hB : 0 ≤ B) : ∀ {m : Nat}, (∀ j : Int, 0 ≤ j → j < m → f j ≤ B) → 0 ≤ maxN f m ∧ maxN f m ≤ B := by
  intro m
  induction m with
  | zero => intro _; exact ⟨Int.le_refl 0, hB⟩
  | succ m ih =>
    intro h
    have h1 := ih (fun j a b => h j a (by omega))
    have h2 := h m (by omega) (by omega)
    unfold maxN
    split <;> omega
/-- the greatest part of set by f, x below n -/
def sPart (set : Int) (f : Int → Int) (n : Int) : Int := maxN (fun g => sumI (fTl set f g) n) 31
theorem sPart_in {set n : Int} {f : Int → Int} (h0 : 0 ≤ n) : 0 ≤ sPart set f n ∧ sPart set f n ≤ n := maxN_bd h0 (fun g _ _ => (sum01 h0 (fTl01 set f g)).2)
theorem sPart_congr {set n : Int} {f f' : Int → Int} (h : ∀ j : Int, 0 ≤ j → j < n → f j = f' j) : sPart set f n = sPart set f' n := maxN_congr (fun g _ _ => fTl_congr h)
def bestSt (part : Int → Int) (L : Int) : Nat → Int × Int
  | 0 => (0, L)
  | m + 1 => if part m < (bestSt part L m).2 then ((m : Int), part m) else bestSt part L m
theorem bestSt_L {part : Int → Int} {L L' : Int} (h : part 0 < L) (h' : part 0 < L') : ∀ m : Nat, bestSt part L (m + 1) = bestSt part L' (m + 1) := by
  intro m
  induction m with
  | zero =>
    show (if part 0 < L then ((0 : Int), part 0) else (0, L)) = if part 0 < L' then ((0 : Int), part 0) else (0, L')
    rw [if_pos h, if_pos h']
  | succ m ih =>
    rw [bestSt, ih, ← bestSt]
theorem bestSt_congr {part part' : Int → Int} {L : Int} : ∀ {m : Nat}, (∀ j : Int, 0 ≤ j → j < m → part j = part' j) → bestSt part L m = bestSt part' L m := by
  intro m
  induction m with
  | zero => intro _; rfl
  | succ m ih =>
    intro h
    unfold bestSt
    rw [ih (fun j a b => h j a (by omega)), h m (by omega) (by omega)]
theorem bestSt_in {part : Int → Int} {L : Int} (hL : 0 ≤ L) : ∀ {m : Nat}, (∀ j : Int, 0 ≤ j → j < m → 0 ≤ part j) → 0 ≤ (bestSt part L m).1 ∧ 0 ≤ (bestSt part L m).2 ∧ (bestSt part L m).2 ≤ L := by
  intro m
  induction m with
  | zero => intro _; exact ⟨Int.le_refl 0, hL, Int.le_refl L⟩
  | succ m ih =>
    intro h
    have h1 := ih (fun j a b => h j a (by omega))
    have h2 := h m (by omega) (by omega)
    unfold bestSt
    split
    · dsimp only; omega
    · exact h1
set_option maxRecDepth 20000 in
set_option maxHeartbeats 4000000 in
theorem l_startTally {w : Hp} {d : Nat} (hT0 : Stc w) : ∀ (k : Nat) (i : Int) (w1 : Hp), 0 ≤ i → i + k = 31 → Same w w1 [46] → (∀ j : Int, 0 ≤ j → j < i → w1 46 j = 0) → WP SH d 19 2 [some (vR 45), some (vI i)] [] w1 (fun v w' => v = none ∧ Same w w' [46] ∧ ∀ j : Int, 0 ≤ j → j < 31 → w' 46 j = 0) := by
  intro k
  induction k with
  | zero =>
    intro i w1 h0 hik hS hz
    have hT := hT0.same hS (by decide)
    refine wp_iload_n (pc' := 3) rfl rfl rfl ?_
    refine wp_bipush (a := 30) (pc' := 5) rfl rfl rfl ?_
    refine wp_icmp_gt (pc' := 8) (pt := 21) rfl rfl rfl (fun q_1 => ?_) (fun q_1 => ?_)
    · skip
      refine wp_ret rfl rfl rfl ?_
      exact ⟨rfl, hS, fun j a b => hz j a (by omega)⟩
    · skip
      exfalso; omega
  | succ k ih =>
    intro i w1 h0 hik hS hz
    have hT := hT0.same hS (by decide)
    refine wp_iload_n (pc' := 3) rfl rfl rfl ?_
    refine wp_bipush (a := 30) (pc' := 5) rfl rfl rfl ?_
    refine wp_icmp_gt (pc' := 8) (pt := 21) rfl rfl rfl (fun q_1 => ?_) (fun q_1 => ?_)
    · skip
      exfalso; omega
    · skip
      refine wp_aload_n (pc' := 9) rfl rfl rfl (by decide) ?_
      refine wp_getR (r' := 46) (ci := 2) (k0 := 1) (pc' := 12) rfl rfl (by decide) (by first | assumption | rfl) (hT.get 61 rfl) ?_
      refine wp_iload_n (pc' := 13) rfl rfl rfl ?_
      refine wp_iconst (a := 0) (pc' := 14) rfl rfl rfl ?_
      refine wp_iastore (pc' := 15) rfl rfl (by first | assumption | rfl) (by omega) ?_
      refine wp_iinc (pc' := 18) rfl rfl rfl (inc_id (by omega) (by omega)) rfl ?_
      dsimp only [lset, lset2, List.set, List.getElem?_cons_zero, List.getElem?_cons_succ]
      refine wp_goto (pc' := 2) rfl rfl ?_
      refine ih (i + 1) _ (by omega) (by omega) (hS.put (by decide)) (fun j j0 j1 => ?_)
      by_cases hj : j = i
      · rw [hj, up_eq]
      · rw [up_at hj]
        exact hz j j0 (by omega)
set_option maxRecDepth 20000 in
set_option maxHeartbeats 4000000 in
theorem c_Clues_startTally {w : Hp} {d : Nat} (hT0 : Stc w) : WP SH (d + 0) 19 0 [some (vR 45), none] [] w (fun v w' => v = none ∧ Same w w' [46] ∧ ∀ j : Int, 0 ≤ j → j < 31 → w' 46 j = 0) := by
  refine wp_iconst (a := 0) (pc' := 1) rfl rfl rfl ?_
  refine wp_istore_n (pc' := 2) rfl rfl (Nat.le_of_ble_eq_true rfl) rfl ?_
  dsimp only [lset, lset2, List.set, List.getElem?_cons_zero, List.getElem?_cons_succ]
  exact l_startTally hT0 31 0 w (by decide) (by decide) (Same.rf _ _) (fun j a b => absurd b (by omega))
set_option maxRecDepth 20000 in
set_option maxHeartbeats 4000000 in
theorem c_Clues_addToTally {w : Hp} {d : Nat} {g : Int} (hT : Stc w) (hg : 0 ≤ g ∧ g ≤ 30) (hv : 0 ≤ w 46 g ∧ w 46 g ≤ 1000) : WP SH (d + 0) 20 0 [some (vR 45), some (vI g)] [] w (fun v w' => v = none ∧ w' = up w 46 g (w 46 g + 1)) := by
  refine wp_iload_n (pc' := 1) rfl rfl rfl ?_
  refine wp_if_lt (pc' := 4) (pt := 20) rfl rfl rfl (fun q_1 => ?_) (fun q_1 => ?_)
  · skip
    refine wp_ret rfl rfl rfl ?_
    first
    | exact ⟨rfl, rfl⟩
    | (exfalso; omega)
  · skip
    refine wp_iload_n (pc' := 5) rfl rfl rfl ?_
    refine wp_bipush (a := 30) (pc' := 7) rfl rfl rfl ?_
    refine wp_icmp_gt (pc' := 10) (pt := 20) rfl rfl rfl (fun q_2 => ?_) (fun q_2 => ?_)
    · skip
      refine wp_ret rfl rfl rfl ?_
      first
      | exact ⟨rfl, rfl⟩
      | (exfalso; omega)
    · skip
      refine wp_aload_n (pc' := 11) rfl rfl rfl (by decide) ?_
      refine wp_getR (r' := 46) (ci := 2) (k0 := 1) (pc' := 14) rfl rfl (by decide) (by first | assumption | rfl) (hT.get 61 rfl) ?_
      refine wp_iload_n (pc' := 15) rfl rfl rfl ?_
      refine wp_dup2 (pc' := 16) rfl rfl ?_
      refine wp_iaload (pc' := 17) rfl rfl (by first | assumption | rfl) (by omega) ?_
      refine wp_iconst (a := 1) (pc' := 18) rfl rfl rfl ?_
      refine wp_iadd (pc' := 19) rfl rfl (by first | exact w32_id (by omega) (by omega) | rfl) ?_
      refine wp_iastore (pc' := 20) rfl rfl (by first | assumption | rfl) (by omega) ?_
      refine wp_ret rfl rfl rfl ?_
      first
      | exact ⟨rfl, rfl⟩
      | (exfalso; omega)
set_option maxRecDepth 20000 in
set_option maxHeartbeats 4000000 in
theorem l_takeIfLess {w : Hp} {d : Nat} {cand best : Int} (hT : Stc w) : ∀ (k m : Nat) (s y : Int), y = m → m + k = 31 → s = maxN (w 46) m → WP SH d 21 5 [some (vR 45), some (vI cand), some (vI best), some (vI s), some (vI y)] [] w (fun v w' => v = some (vI (if maxN (w 46) 31 < w 45 0 then cand else best)) ∧ SameF w w' [] [(45, 0)] ∧ w' 45 0 = if maxN (w 46) 31 < w 45 0 then maxN (w 46) 31 else w 45 0) := by
  intro k
  induction k with
  | zero =>
    intro m s y hy hmk hs
    refine wp_iload (pc' := 7) rfl rfl rfl ?_
    refine wp_bipush (a := 30) (pc' := 9) rfl rfl rfl ?_
    refine wp_icmp_gt (pc' := 12) (pt := 30) rfl rfl rfl (fun q_1 => ?_) (fun q_1 => ?_)
    · skip
      refine wp_iload_n (pc' := 31) rfl rfl rfl ?_
      refine wp_aload_n (pc' := 32) rfl rfl rfl (by decide) ?_
      refine wp_getI (ci := 2) (k0 := 0) (pc' := 35) rfl rfl (by decide) (by first | assumption | rfl) ?_
      refine wp_icmp_lt (pc' := 38) (pt := 40) rfl rfl rfl (fun q_2 => ?_) (fun q_2 => ?_)
      · skip
        refine wp_aload_n (pc' := 41) rfl rfl rfl (by decide) ?_
        refine wp_iload_n (pc' := 42) rfl rfl rfl ?_
        refine wp_putI (ci := 2) (k0 := 0) (pc' := 45) rfl rfl (by decide) (by first | assumption | rfl) ?_
        refine wp_iload_n (pc' := 46) rfl rfl rfl ?_
        refine wp_ret rfl rfl rfl ?_
        obtain rfl : m = 31 := by omega
        subst hs
        first
        | (rw [if_pos (by omega), if_pos (by omega)]
           exact ⟨rfl, (SameF.rf _ _ _).put (Or.inr (by decide)), up_eq _ _ _ _⟩)
        | (rw [if_neg (by omega), if_neg (by omega)]
           exact ⟨rfl, SameF.rf _ _ _, rfl⟩)
      · skip
        refine wp_iload_n (pc' := 39) rfl rfl rfl ?_
        refine wp_ret rfl rfl rfl ?_
        obtain rfl : m = 31 := by omega
        subst hs
        first
        | (rw [if_pos (by omega), if_pos (by omega)]
           exact ⟨rfl, (SameF.rf _ _ _).put (Or.inr (by decide)), up_eq _ _ _ _⟩)
        | (rw [if_neg (by omega), if_neg (by omega)]
           exact ⟨rfl, SameF.rf _ _ _, rfl⟩)
    · skip
      exfalso; omega
  | succ k ih =>
    intro m s y hy hmk hs
    refine wp_iload (pc' := 7) rfl rfl rfl ?_
    refine wp_bipush (a := 30) (pc' := 9) rfl rfl rfl ?_
    refine wp_icmp_gt (pc' := 12) (pt := 30) rfl rfl rfl (fun q_1 => ?_) (fun q_1 => ?_)
    · skip
      exfalso; omega
    · skip
      refine wp_iload_n (pc' := 13) rfl rfl rfl ?_
      refine wp_aload_n (pc' := 14) rfl rfl rfl (by decide) ?_
      refine wp_getR (r' := 46) (ci := 2) (k0 := 1) (pc' := 17) rfl rfl (by decide) (by first | assumption | rfl) (hT.get 61 rfl) ?_
      refine wp_iload (pc' := 19) rfl rfl rfl ?_
      refine wp_iaload (pc' := 20) rfl rfl (by first | assumption | rfl) (by omega) ?_
      refine wp_max (pc' := 23) rfl rfl (Nat.le_of_ble_eq_true rfl) rfl ?_
      refine wp_istore_n (pc' := 24) rfl rfl (Nat.le_of_ble_eq_true rfl) rfl ?_
      dsimp only [lset, lset2, List.set, List.getElem?_cons_zero, List.getElem?_cons_succ]
      refine wp_iinc (pc' := 27) rfl rfl rfl (inc_id (by omega) (by omega)) rfl ?_
      dsimp only [lset, lset2, List.set, List.getElem?_cons_zero, List.getElem?_cons_succ]
      refine wp_goto (pc' := 5) rfl rfl ?_
      refine ih (m + 1) _ _ (by omega) (by omega) ?_
      rw [maxN, ← hs, hy]
set_option maxRecDepth 20000 in
set_option maxHeartbeats 4000000 in
theorem c_Clues_takeIfLess {w : Hp} {d : Nat} {cand best : Int} (hT : Stc w) : WP SH (d + 0) 21 0 [some (vR 45), some (vI cand), some (vI best), none, none] [] w (fun v w' => v = some (vI (if maxN (w 46) 31 < w 45 0 then cand else best)) ∧ SameF w w' [] [(45, 0)] ∧ w' 45 0 = if maxN (w 46) 31 < w 45 0 then maxN (w 46) 31 else w 45 0) := by
  refine wp_iconst (a := 0) (pc' := 1) rfl rfl rfl ?_
  refine wp_istore_n (pc' := 2) rfl rfl (Nat.le_of_ble_eq_true rfl) rfl ?_
  dsimp only [lset, lset2, List.set, List.getElem?_cons_zero, List.getElem?_cons_succ]
  refine wp_iconst (a := 0) (pc' := 3) rfl rfl rfl ?_
  refine wp_istore (pc' := 5) rfl rfl (Nat.le_of_ble_eq_true rfl) rfl ?_
  dsimp only [lset, lset2, List.set, List.getElem?_cons_zero, List.getElem?_cons_succ]
  exact l_takeIfLess hT 31 0 _ _ rfl rfl rfl
set_option maxRecDepth 20000 in
set_option maxHeartbeats 4000000 in
theorem l_tallyC {w : Hp} {d : Nat} {set best i0 : Int} (hl : LnOK w) (hi : 0 ≤ i0 ∧ i0 < w 3 2) {Q : Option PV → Hp → Prop} (hT0 : Stc w) (K : ∀ (w1 : Hp), Same w w1 [46] → (∀ g : Int, 0 ≤ g → g < 31 → w1 46 g = sumI (fTl set (fun x => sG (w 3 0) (w 4 i0) (w 5 i0) x) g) (w 3 0 * w 3 1)) → WP SH (d + 2) 17 63 [some (vR 45), some (vR 3), some (vI set), some (vI best), some (vI i0), some (vI (w 3 0 * w 3 1))] [] w1 Q) : ∀ (k : Nat) (x : Int) (w1 : Hp), 0 ≤ x → x + k = w 3 0 * w 3 1 → Same w w1 [46] → (∀ g : Int, 0 ≤ g → g < 31 → w1 46 g = sumI (fTl set (fun x => sG (w 3 0) (w 4 i0) (w 5 i0) x) g) x) → WP SH (d + 2) 17 27 [some (vR 45), some (vR 3), some (vI set), some (vI best), some (vI i0), some (vI x)] [] w1 Q := by
  intro k
  induction k with
  | zero =>
    intro x w1 h0 hxk hS hz
    have hT := hT0.same hS (by decide)
    have e3 : w1 3 = w 3 := hS 3 (by decide)
    have e4 : w1 4 = w 4 := hS 4 (by decide)
    have e5 : w1 5 = w 5 := hS 5 (by decide)
    have e6 : w1 6 = w 6 := hS 6 (by decide)
    have hl1 : LnOK w1 := hl.same hS (by decide)
    have hml := hl1.1.mul
    have hml0 : w1 3 0 * w1 3 1 = w 3 0 * w 3 1 := by rw [e3]
    have hln := hl1.2.1
    have hln0 : w1 3 2 = w 3 2 := by rw [e3]
    refine wp_iload (pc' := 29) rfl rfl rfl ?_
    refine wp_aload_n (pc' := 30) rfl rfl rfl (by decide) ?_
    refine wp_call (pc' := 33) rfl rfl rfl rfl rfl ⟨Nat.le_of_ble_eq_true rfl, Nat.le_of_ble_eq_true rfl, Nat.le_of_ble_eq_true rfl, Nat.le_of_ble_eq_true rfl, Nat.le_of_ble_eq_true rfl⟩ rfl (c_Land_cells (by omega)) ?_
    intro v1 w9 hq1
    rw [hq1.1, hq1.2]
    clear hq1 v1 w9
    dsimp only [Option.toList, List.cons_append, List.nil_append, List.append_nil]
    refine wp_icmp_ge (pc' := 36) (pt := 63) rfl rfl rfl (fun q_1 => ?_) (fun q_1 => ?_)
    · skip
      obtain rfl : x = w 3 0 * w 3 1 := by omega
      exact K w1 hS hz
    · skip
      exfalso; omega
  | succ k ih =>
    intro x w1 h0 hxk hS hz
    have hT := hT0.same hS (by decide)
    have e3 : w1 3 = w 3 := hS 3 (by decide)
    have e4 : w1 4 = w 4 := hS 4 (by decide)
    have e5 : w1 5 = w 5 := hS 5 (by decide)
    have e6 : w1 6 = w 6 := hS 6 (by decide)
    have hl1 : LnOK w1 := hl.same hS (by decide)
    have hml := hl1.1.mul
    have hml0 : w1 3 0 * w1 3 1 = w 3 0 * w 3 1 := by rw [e3]
    have hln := hl1.2.1
    have hln0 : w1 3 2 = w 3 2 := by rw [e3]
    refine wp_iload (pc' := 29) rfl rfl rfl ?_
    refine wp_aload_n (pc' := 30) rfl rfl rfl (by decide) ?_
    refine wp_call (pc' := 33) rfl rfl rfl rfl rfl ⟨Nat.le_of_ble_eq_true rfl, Nat.le_of_ble_eq_true rfl, Nat.le_of_ble_eq_true rfl, Nat.le_of_ble_eq_true rfl, Nat.le_of_ble_eq_true rfl⟩ rfl (c_Land_cells (by omega)) ?_
    intro v1 w9 hq1
    rw [hq1.1, hq1.2]
    clear hq1 v1 w9
    dsimp only [Option.toList, List.cons_append, List.nil_append, List.append_nil]
    refine wp_icmp_ge (pc' := 36) (pt := 63) rfl rfl rfl (fun q_1 => ?_) (fun q_1 => ?_)
    · skip
      exfalso; omega
    · skip
      refine wp_iload_n (pc' := 37) rfl rfl rfl ?_
      refine wp_iload (pc' := 39) rfl rfl rfl ?_
      refine wp_ishr (pc' := 40) rfl rfl rfl ?_
      refine wp_iconst (a := 1) (pc' := 41) rfl rfl rfl ?_
      refine wp_iand (pc' := 42) rfl rfl rfl ?_
      refine wp_if_eq (pc' := 45) (pt := 57) rfl rfl rfl (fun q_2 => ?_) (fun q_2 => ?_)
      · skip
        skip
        refine wp_iinc (pc' := 60) rfl rfl rfl (inc_id (by omega) (by omega)) rfl ?_
        dsimp only [lset, lset2, List.set, List.getElem?_cons_zero, List.getElem?_cons_succ]
        refine wp_goto (pc' := 27) rfl rfl ?_
        refine ih (x + 1) _ (by omega) (by omega) hS (fun g g0 g1 => ?_)
        rw [sumI_s _ h0, hz g g0 g1]
        have hb0 : ¬ bit set x = 1 := by
          unfold bit
          omega
        rw [fTl, if_neg (fun z => hb0 z.1), Int.add_zero]
      · skip
        refine wp_aload_n (pc' := 46) rfl rfl rfl (by decide) ?_
        refine wp_aload_n (pc' := 47) rfl rfl rfl (by decide) ?_
        refine wp_iload (pc' := 49) rfl rfl rfl ?_
        refine wp_iload (pc' := 51) rfl rfl rfl ?_
        refine wp_call (pc' := 54) rfl rfl rfl rfl rfl ⟨Nat.le_of_ble_eq_true rfl, Nat.le_of_ble_eq_true rfl, Nat.le_of_ble_eq_true rfl, Nat.le_of_ble_eq_true rfl, Nat.le_of_ble_eq_true rfl⟩ rfl (c_Land_gains hl1.1 (by omega) hT ⟨h0, by omega⟩ (hl1.2.2 i0 hi.1 (by rw [hln0]; exact hi.2)).2.1) ?_
        intro v1 w9 hq1
        rw [hq1.1, hq1.2]
        clear hq1 v1 w9
        rw [e3, e4, e5]
        have hgb := (sG_in hl.1 (hl.2.2 i0 hi.1 hi.2).2.1 ⟨h0, by omega⟩ : 0 ≤ sG (w 3 0) (w 4 i0) (w 5 i0) x ∧ sG (w 3 0) (w 4 i0) (w 5 i0) x ≤ 18)
        have hzv := hz (sG (w 3 0) (w 4 i0) (w 5 i0) x) (by omega) (by omega)
        have hsb := sum01 (n := x) h0 (fTl01 set (fun x => sG (w 3 0) (w 4 i0) (w 5 i0) x) (sG (w 3 0) (w 4 i0) (w 5 i0) x))
        dsimp only [Option.toList, List.cons_append, List.nil_append, List.append_nil]
        refine wp_call (pc' := 57) rfl rfl rfl rfl rfl ⟨Nat.le_of_ble_eq_true rfl, Nat.le_of_ble_eq_true rfl, Nat.le_of_ble_eq_true rfl, Nat.le_of_ble_eq_true rfl, Nat.le_of_ble_eq_true rfl⟩ rfl (c_Clues_addToTally hT (by omega) (by omega)) ?_
        rintro v1 w9 ⟨hv1, hw9⟩
        rw [hv1, hw9]
        clear hv1 hw9 v1 w9
        dsimp only [Option.toList, List.cons_append, List.nil_append, List.append_nil]
        skip
        refine wp_iinc (pc' := 60) rfl rfl rfl (inc_id (by omega) (by omega)) rfl ?_
        dsimp only [lset, lset2, List.set, List.getElem?_cons_zero, List.getElem?_cons_succ]
        refine wp_goto (pc' := 27) rfl rfl ?_
        refine ih (x + 1) _ (by omega) (by omega) (hS.put (by decide)) (fun g g0 g1 => ?_)
        rw [sumI_s _ h0]
        have hb1 : bit set x = 1 := by
          have hbb := bit01 set x
          unfold bit at hbb ⊢
          omega
        by_cases hg : g = (fun x => sG (w 3 0) (w 4 i0) (w 5 i0) x) x
        · rw [hg, up_eq, hz _ (by omega) (by omega), fTl, if_pos ⟨hb1, rfl⟩]
        · rw [up_at hg, hz g g0 g1, fTl, if_neg (fun z => hg z.2.symm), Int.add_zero]
set_option maxRecDepth 20000 in
set_option maxHeartbeats 4000000 in
theorem l_tallyK {w : Hp} {d : Nat} {set best i0 y : Int} (hl : LnOK w) (hi : 0 ≤ i0 ∧ i0 < w 3 2) (hy : Cel (w 3 0) (w 3 1) y) {Q : Option PV → Hp → Prop} (hT0 : Stc w) (K : ∀ (w1 : Hp), Same w w1 [46] → (∀ g : Int, 0 ≤ g → g < 31 → w1 46 g = sumI (fTl set (fun x => sG (w 3 0) x (w 5 i0) y) g) (6)) → WP SH (d + 2) 18 63 [some (vR 45), some (vR 3), some (vI i0), some (vI set), some (vI best), some (vI y), some (vI (6))] [] w1 Q) : ∀ (k : Nat) (x : Int) (w1 : Hp), 0 ≤ x → x + k = 6 → Same w w1 [46] → (∀ g : Int, 0 ≤ g → g < 31 → w1 46 g = sumI (fTl set (fun x => sG (w 3 0) x (w 5 i0) y) g) x) → WP SH (d + 2) 18 28 [some (vR 45), some (vR 3), some (vI i0), some (vI set), some (vI best), some (vI y), some (vI x)] [] w1 Q := by
  intro k
  induction k with
  | zero =>
    intro x w1 h0 hxk hS hz
    have hT := hT0.same hS (by decide)
    have e3 : w1 3 = w 3 := hS 3 (by decide)
    have e4 : w1 4 = w 4 := hS 4 (by decide)
    have e5 : w1 5 = w 5 := hS 5 (by decide)
    have e6 : w1 6 = w 6 := hS 6 (by decide)
    have hl1 : LnOK w1 := hl.same hS (by decide)
    have hml := hl1.1.mul
    have hml0 : w1 3 0 * w1 3 1 = w 3 0 * w 3 1 := by rw [e3]
    have hln := hl1.2.1
    have hln0 : w1 3 2 = w 3 2 := by rw [e3]
    refine wp_iload (pc' := 30) rfl rfl rfl ?_
    refine wp_bipush (a := 6) (pc' := 32) rfl rfl rfl ?_
    refine wp_icmp_ge (pc' := 35) (pt := 63) rfl rfl rfl (fun q_1 => ?_) (fun q_1 => ?_)
    · skip
      obtain rfl : x = 6 := by omega
      exact K w1 hS hz
    · skip
      exfalso; omega
  | succ k ih =>
    intro x w1 h0 hxk hS hz
    have hT := hT0.same hS (by decide)
    have e3 : w1 3 = w 3 := hS 3 (by decide)
    have e4 : w1 4 = w 4 := hS 4 (by decide)
    have e5 : w1 5 = w 5 := hS 5 (by decide)
    have e6 : w1 6 = w 6 := hS 6 (by decide)
    have hl1 : LnOK w1 := hl.same hS (by decide)
    have hml := hl1.1.mul
    have hml0 : w1 3 0 * w1 3 1 = w 3 0 * w 3 1 := by rw [e3]
    have hln := hl1.2.1
    have hln0 : w1 3 2 = w 3 2 := by rw [e3]
    refine wp_iload (pc' := 30) rfl rfl rfl ?_
    refine wp_bipush (a := 6) (pc' := 32) rfl rfl rfl ?_
    refine wp_icmp_ge (pc' := 35) (pt := 63) rfl rfl rfl (fun q_1 => ?_) (fun q_1 => ?_)
    · skip
      exfalso; omega
    · skip
      refine wp_iload_n (pc' := 36) rfl rfl rfl ?_
      refine wp_iload (pc' := 38) rfl rfl rfl ?_
      refine wp_ishr (pc' := 39) rfl rfl rfl ?_
      refine wp_iconst (a := 1) (pc' := 40) rfl rfl rfl ?_
      refine wp_iand (pc' := 41) rfl rfl rfl ?_
      refine wp_if_eq (pc' := 44) (pt := 57) rfl rfl rfl (fun q_2 => ?_) (fun q_2 => ?_)
      · skip
        skip
        refine wp_iinc (pc' := 60) rfl rfl rfl (inc_id (by omega) (by omega)) rfl ?_
        dsimp only [lset, lset2, List.set, List.getElem?_cons_zero, List.getElem?_cons_succ]
        refine wp_goto (pc' := 28) rfl rfl ?_
        refine ih (x + 1) _ (by omega) (by omega) hS (fun g g0 g1 => ?_)
        rw [sumI_s _ h0, hz g g0 g1]
        have hb0 : ¬ bit set x = 1 := by
          unfold bit
          omega
        rw [fTl, if_neg (fun z => hb0 z.1), Int.add_zero]
      · skip
        refine wp_aload_n (pc' := 45) rfl rfl rfl (by decide) ?_
        refine wp_aload_n (pc' := 46) rfl rfl rfl (by decide) ?_
        refine wp_iload (pc' := 48) rfl rfl rfl ?_
        refine wp_iload_n (pc' := 49) rfl rfl rfl ?_
        refine wp_iload (pc' := 51) rfl rfl rfl ?_
        refine wp_call (pc' := 54) rfl rfl rfl rfl rfl ⟨Nat.le_of_ble_eq_true rfl, Nat.le_of_ble_eq_true rfl, Nat.le_of_ble_eq_true rfl, Nat.le_of_ble_eq_true rfl, Nat.le_of_ble_eq_true rfl⟩ rfl (c_Land_gainsAs hl1.1 (by omega) hT (by rw [e3]; exact hy) (hl1.2.2 i0 hi.1 (by rw [hln0]; exact hi.2)).2.1) ?_
        intro v1 w9 hq1
        rw [hq1.1, hq1.2]
        clear hq1 v1 w9
        rw [e3, e5]
        have hgb := (sG_in hl.1 (hl.2.2 i0 hi.1 hi.2).2.1 hy : 0 ≤ sG (w 3 0) x (w 5 i0) y ∧ sG (w 3 0) x (w 5 i0) y ≤ 18)
        have hzv := hz (sG (w 3 0) x (w 5 i0) y) (by omega) (by omega)
        have hsb := sum01 (n := x) h0 (fTl01 set (fun x => sG (w 3 0) x (w 5 i0) y) (sG (w 3 0) x (w 5 i0) y))
        dsimp only [Option.toList, List.cons_append, List.nil_append, List.append_nil]
        refine wp_call (pc' := 57) rfl rfl rfl rfl rfl ⟨Nat.le_of_ble_eq_true rfl, Nat.le_of_ble_eq_true rfl, Nat.le_of_ble_eq_true rfl, Nat.le_of_ble_eq_true rfl, Nat.le_of_ble_eq_true rfl⟩ rfl (c_Clues_addToTally hT (by omega) (by omega)) ?_
        rintro v1 w9 ⟨hv1, hw9⟩
        rw [hv1, hw9]
        clear hv1 hw9 v1 w9
        dsimp only [Option.toList, List.cons_append, List.nil_append, List.append_nil]
        skip
        refine wp_iinc (pc' := 60) rfl rfl rfl (inc_id (by omega) (by omega)) rfl ?_
        dsimp only [lset, lset2, List.set, List.getElem?_cons_zero, List.getElem?_cons_succ]
        refine wp_goto (pc' := 28) rfl rfl ?_
        refine ih (x + 1) _ (by omega) (by omega) (hS.put (by decide)) (fun g g0 g1 => ?_)
        rw [sumI_s _ h0]
        have hb1 : bit set x = 1 := by
          have hbb := bit01 set x
          unfold bit at hbb ⊢
          omega
        by_cases hg : g = (fun x => sG (w 3 0) x (w 5 i0) y) x
        · rw [hg, up_eq, hz _ (by omega) (by omega), fTl, if_pos ⟨hb1, rfl⟩]
        · rw [up_at hg, hz g g0 g1, fTl, if_neg (fun z => hg z.2.symm), Int.add_zero]
set_option maxRecDepth 20000 in
set_option maxHeartbeats 4000000 in
theorem l_teller {w : Hp} {d : Nat} {set : Int} (hl : LnOK w) (hT0 : Stc w) : ∀ (k m : Nat) (b y : Int) (w1 : Hp) (x9 : Option PV), y = m → m + k = (w 3 2).toNat → SameF w w1 [46] [(45, 0)] → b = (bestSt (fun i => sPart set (fun x => sG (w 3 0) (w 4 i) (w 5 i) x) (w 3 0 * w 3 1)) 26 m).1 → w1 45 0 = (bestSt (fun i => sPart set (fun x => sG (w 3 0) (w 4 i) (w 5 i) x) (w 3 0 * w 3 1)) 26 m).2 → WP SH (d + 3) 17 11 [some (vR 45), some (vR 3), some (vI set), some (vI b), some (vI y), x9] [] w1 (fun v w' => v = some (vI (bestSt (fun i => sPart set (fun x => sG (w 3 0) (w 4 i) (w 5 i) x) (w 3 0 * w 3 1)) 26 (w 3 2).toNat).1) ∧ SameF w w' [46] [(45, 0)] ∧ w' 45 0 = (bestSt (fun i => sPart set (fun x => sG (w 3 0) (w 4 i) (w 5 i) x) (w 3 0 * w 3 1)) 26 (w 3 2).toNat).2) := by
  intro k
  induction k with
  | zero =>
    intro m b y w1 x9 hy hmk hS hq1 hq2
    have hT := hT0.sameF hS (by decide)
    have e3 : w1 3 = w 3 := hS.cell 3 (by decide) (by decide)
    have e4 : w1 4 = w 4 := hS.cell 4 (by decide) (by decide)
    have e5 : w1 5 = w 5 := hS.cell 5 (by decide) (by decide)
    have e6 : w1 6 = w 6 := hS.cell 6 (by decide) (by decide)
    have hl1 : LnOK w1 := by
      unfold LnOK
      rw [e3, e4, e5, e6]
      exact hl
    have hml := hl.1.mul
    have hml0 : w1 3 0 * w1 3 1 = w 3 0 * w 3 1 := by rw [e3]
    have hln := hl.2.1
    have hln0 : w1 3 2 = w 3 2 := by rw [e3]
    refine wp_iload (pc' := 13) rfl rfl rfl ?_
    refine wp_aload_n (pc' := 14) rfl rfl rfl (by decide) ?_
    refine wp_getI (ci := 3) (k0 := 2) (pc' := 17) rfl rfl (by decide) (by first | assumption | rfl) ?_
    refine wp_icmp_ge (pc' := 20) (pt := 77) rfl rfl rfl (fun q_1 => ?_) (fun q_1 => ?_)
    · skip
      refine wp_iload_n (pc' := 78) rfl rfl rfl ?_
      refine wp_ret rfl rfl rfl ?_
      obtain rfl : m = (w 3 2).toNat := by omega
      exact ⟨by rw [hq1], hS, hq2⟩
    · skip
      exfalso; omega
  | succ k ih =>
    intro m b y w1 x9 hy hmk hS hq1 hq2
    have hT := hT0.sameF hS (by decide)
    have e3 : w1 3 = w 3 := hS.cell 3 (by decide) (by decide)
    have e4 : w1 4 = w 4 := hS.cell 4 (by decide) (by decide)
    have e5 : w1 5 = w 5 := hS.cell 5 (by decide) (by decide)
    have e6 : w1 6 = w 6 := hS.cell 6 (by decide) (by decide)
    have hl1 : LnOK w1 := by
      unfold LnOK
      rw [e3, e4, e5, e6]
      exact hl
    have hml := hl.1.mul
    have hml0 : w1 3 0 * w1 3 1 = w 3 0 * w 3 1 := by rw [e3]
    have hln := hl.2.1
    have hln0 : w1 3 2 = w 3 2 := by rw [e3]
    refine wp_iload (pc' := 13) rfl rfl rfl ?_
    refine wp_aload_n (pc' := 14) rfl rfl rfl (by decide) ?_
    refine wp_getI (ci := 3) (k0 := 2) (pc' := 17) rfl rfl (by decide) (by first | assumption | rfl) ?_
    refine wp_icmp_ge (pc' := 20) (pt := 77) rfl rfl rfl (fun q_1 => ?_) (fun q_1 => ?_)
    · skip
      exfalso; omega
    · skip
      refine wp_aload_n (pc' := 21) rfl rfl rfl (by decide) ?_
      refine wp_call (pc' := 24) rfl rfl rfl rfl rfl ⟨Nat.le_of_ble_eq_true rfl, Nat.le_of_ble_eq_true rfl, Nat.le_of_ble_eq_true rfl, Nat.le_of_ble_eq_true rfl, Nat.le_of_ble_eq_true rfl⟩ rfl (c_Clues_startTally hT) ?_
      rintro v1 w2 ⟨hv1, hS2, hz2⟩
      rw [hv1]
      clear hv1 v1
      have hT2 := hT.same hS2 (by decide)
      have f3 : w2 3 = w 3 := (hS2 3 (by decide)).trans e3
      have f4 : w2 4 = w 4 := (hS2 4 (by decide)).trans e4
      have f5 : w2 5 = w 5 := (hS2 5 (by decide)).trans e5
      have hl2 : LnOK w2 := hl1.same hS2 (by decide)
      dsimp only [Option.toList, List.cons_append, List.nil_append, List.append_nil]
      refine wp_iconst (a := 0) (pc' := 25) rfl rfl rfl ?_
      refine wp_istore (pc' := 27) rfl rfl (Nat.le_of_ble_eq_true rfl) rfl ?_
      dsimp only [lset, lset2, List.set, List.getElem?_cons_zero, List.getElem?_cons_succ]
      refine l_tallyC (w := w2) (set := set) hl2 (by rw [f3]; omega) hT2 (fun w3 hS3 hz3 => ?_) (w2 3 0 * w2 3 1).toNat 0 w2 (by decide) (by rw [f3]; omega) (Same.rf _ _) (fun g g0 g1 => by rw [sumI_0]; exact hz2 g g0 g1)
      have hT3 := hT2.same hS3 (by decide)
      refine wp_aload_n (pc' := 64) rfl rfl rfl (by decide) ?_
      refine wp_iload (pc' := 66) rfl rfl rfl ?_
      refine wp_iload_n (pc' := 67) rfl rfl rfl ?_
      refine wp_call (pc' := 70) rfl rfl rfl rfl rfl ⟨Nat.le_of_ble_eq_true rfl, Nat.le_of_ble_eq_true rfl, Nat.le_of_ble_eq_true rfl, Nat.le_of_ble_eq_true rfl, Nat.le_of_ble_eq_true rfl⟩ rfl (c_Clues_takeIfLess hT3) ?_
      rintro v1 w4 ⟨hv1, hS4, h45⟩
      rw [hv1]
      clear hv1 v1
      have hmx : maxN (w3 46) 31 = (fun i => sPart set (fun x => sG (w 3 0) (w 4 i) (w 5 i) x) (w 3 0 * w 3 1)) y := by
        show _ = sPart _ _ _
        unfold sPart
        exact maxN_congr (fun g g0 g1 => by rw [hz3 g g0 (by omega), f3, f5, f4])
      have h450 : w3 45 0 = w1 45 0 := by rw [hS3 45 (by decide), hS2 45 (by decide)]
      rw [hmx, h450, hq2] at h45
      rw [hmx, h450, hq2]
      dsimp only [Option.toList, List.cons_append, List.nil_append, List.append_nil]
      refine wp_istore_n (pc' := 71) rfl rfl (Nat.le_of_ble_eq_true rfl) rfl ?_
      dsimp only [lset, lset2, List.set, List.getElem?_cons_zero, List.getElem?_cons_succ]
      refine wp_iinc (pc' := 74) rfl rfl rfl (inc_id (by omega) (by omega)) rfl ?_
      dsimp only [lset, lset2, List.set, List.getElem?_cons_zero, List.getElem?_cons_succ]
      refine wp_goto (pc' := 11) rfl rfl ?_
      refine ih (m + 1) _ _ w4 _ (by omega) (by omega) ((hS.tr ((hS2.tr hS3).F _)).tr (hS4.mono (fun r hr => absurd hr (by simp)) (fun q hq => Or.inl hq))) ?_ ?_
      · rw [bestSt, hq1, hy]
        by_cases hlt : (fun i => sPart set (fun x => sG (w 3 0) (w 4 i) (w 5 i) x) (w 3 0 * w 3 1)) (m : Int) < (bestSt (fun i => sPart set (fun x => sG (w 3 0) (w 4 i) (w 5 i) x) (w 3 0 * w 3 1)) 26 m).2
        · rw [if_pos hlt, if_pos hlt]
        · rw [if_neg hlt, if_neg hlt]
      · rw [h45, bestSt, hy]
        by_cases hlt : (fun i => sPart set (fun x => sG (w 3 0) (w 4 i) (w 5 i) x) (w 3 0 * w 3 1)) (m : Int) < (bestSt (fun i => sPart set (fun x => sG (w 3 0) (w 4 i) (w 5 i) x) (w 3 0 * w 3 1)) 26 m).2
        · rw [if_pos hlt, if_pos hlt]
        · rw [if_neg hlt, if_neg hlt]
set_option maxRecDepth 20000 in
set_option maxHeartbeats 4000000 in
theorem l_bestCell {w : Hp} {d : Nat} {set i0 : Int} (hl : LnOK w) (hi : 0 ≤ i0 ∧ i0 < w 3 2) (hT0 : Stc w) : ∀ (k m : Nat) (b y : Int) (w1 : Hp) (x9 : Option PV), y = m → m + k = (w 3 0 * w 3 1).toNat → SameF w w1 [46] [(45, 0)] → b = (bestSt (fun y => sPart set (fun x => sG (w 3 0) x (w 5 i0) y) 6) 7 m).1 → w1 45 0 = (bestSt (fun y => sPart set (fun x => sG (w 3 0) x (w 5 i0) y) 6) 7 m).2 → WP SH (d + 3) 18 12 [some (vR 45), some (vR 3), some (vI i0), some (vI set), some (vI b), some (vI y), x9] [] w1 (fun v w' => v = some (vI (bestSt (fun y => sPart set (fun x => sG (w 3 0) x (w 5 i0) y) 6) 7 (w 3 0 * w 3 1).toNat).1) ∧ SameF w w' [46] [(45, 0)] ∧ w' 45 0 = (bestSt (fun y => sPart set (fun x => sG (w 3 0) x (w 5 i0) y) 6) 7 (w 3 0 * w 3 1).toNat).2) := by
  intro k
  induction k with
  | zero =>
    intro m b y w1 x9 hy hmk hS hq1 hq2
    have hT := hT0.sameF hS (by decide)
    have e3 : w1 3 = w 3 := hS.cell 3 (by decide) (by decide)
    have e4 : w1 4 = w 4 := hS.cell 4 (by decide) (by decide)
    have e5 : w1 5 = w 5 := hS.cell 5 (by decide) (by decide)
    have e6 : w1 6 = w 6 := hS.cell 6 (by decide) (by decide)
    have hl1 : LnOK w1 := by
      unfold LnOK
      rw [e3, e4, e5, e6]
      exact hl
    have hml := hl.1.mul
    have hml0 : w1 3 0 * w1 3 1 = w 3 0 * w 3 1 := by rw [e3]
    have hln := hl.2.1
    have hln0 : w1 3 2 = w 3 2 := by rw [e3]
    refine wp_iload (pc' := 14) rfl rfl rfl ?_
    refine wp_aload_n (pc' := 15) rfl rfl rfl (by decide) ?_
    refine wp_call (pc' := 18) rfl rfl rfl rfl rfl ⟨Nat.le_of_ble_eq_true rfl, Nat.le_of_ble_eq_true rfl, Nat.le_of_ble_eq_true rfl, Nat.le_of_ble_eq_true rfl, Nat.le_of_ble_eq_true rfl⟩ rfl (c_Land_cells (by omega)) ?_
    intro v1 w9 hq1
    rw [hq1.1, hq1.2]
    clear hq1 v1 w9
    dsimp only [Option.toList, List.cons_append, List.nil_append, List.append_nil]
    refine wp_icmp_ge (pc' := 21) (pt := 79) rfl rfl rfl (fun q_1 => ?_) (fun q_1 => ?_)
    · skip
      refine wp_iload (pc' := 81) rfl rfl rfl ?_
      refine wp_ret rfl rfl rfl ?_
      obtain rfl : m = (w 3 0 * w 3 1).toNat := by omega
      exact ⟨by rw [hq1], hS, hq2⟩
    · skip
      exfalso; omega
  | succ k ih =>
    intro m b y w1 x9 hy hmk hS hq1 hq2
    have hT := hT0.sameF hS (by decide)
    have e3 : w1 3 = w 3 := hS.cell 3 (by decide) (by decide)
    have e4 : w1 4 = w 4 := hS.cell 4 (by decide) (by decide)
    have e5 : w1 5 = w 5 := hS.cell 5 (by decide) (by decide)
    have e6 : w1 6 = w 6 := hS.cell 6 (by decide) (by decide)
    have hl1 : LnOK w1 := by
      unfold LnOK
      rw [e3, e4, e5, e6]
      exact hl
    have hml := hl.1.mul
    have hml0 : w1 3 0 * w1 3 1 = w 3 0 * w 3 1 := by rw [e3]
    have hln := hl.2.1
    have hln0 : w1 3 2 = w 3 2 := by rw [e3]
    refine wp_iload (pc' := 14) rfl rfl rfl ?_
    refine wp_aload_n (pc' := 15) rfl rfl rfl (by decide) ?_
    refine wp_call (pc' := 18) rfl rfl rfl rfl rfl ⟨Nat.le_of_ble_eq_true rfl, Nat.le_of_ble_eq_true rfl, Nat.le_of_ble_eq_true rfl, Nat.le_of_ble_eq_true rfl, Nat.le_of_ble_eq_true rfl⟩ rfl (c_Land_cells (by omega)) ?_
    intro v1 w9 hq1
    rw [hq1.1, hq1.2]
    clear hq1 v1 w9
    dsimp only [Option.toList, List.cons_append, List.nil_append, List.append_nil]
    refine wp_icmp_ge (pc' := 21) (pt := 79) rfl rfl rfl (fun q_1 => ?_) (fun q_1 => ?_)
    · skip
      exfalso; omega
    · skip
      refine wp_aload_n (pc' := 22) rfl rfl rfl (by decide) ?_
      refine wp_call (pc' := 25) rfl rfl rfl rfl rfl ⟨Nat.le_of_ble_eq_true rfl, Nat.le_of_ble_eq_true rfl, Nat.le_of_ble_eq_true rfl, Nat.le_of_ble_eq_true rfl, Nat.le_of_ble_eq_true rfl⟩ rfl (c_Clues_startTally hT) ?_
      rintro v1 w2 ⟨hv1, hS2, hz2⟩
      rw [hv1]
      clear hv1 v1
      have hT2 := hT.same hS2 (by decide)
      have f3 : w2 3 = w 3 := (hS2 3 (by decide)).trans e3
      have f4 : w2 4 = w 4 := (hS2 4 (by decide)).trans e4
      have f5 : w2 5 = w 5 := (hS2 5 (by decide)).trans e5
      have hl2 : LnOK w2 := hl1.same hS2 (by decide)
      dsimp only [Option.toList, List.cons_append, List.nil_append, List.append_nil]
      refine wp_iconst (a := 0) (pc' := 26) rfl rfl rfl ?_
      refine wp_istore (pc' := 28) rfl rfl (Nat.le_of_ble_eq_true rfl) rfl ?_
      dsimp only [lset, lset2, List.set, List.getElem?_cons_zero, List.getElem?_cons_succ]
      refine l_tallyK (w := w2) (set := set) hl2 (by rw [f3]; exact hi) (by rw [f3]; exact ⟨by omega, by omega⟩) hT2 (fun w3 hS3 hz3 => ?_) 6 0 w2 (by decide) (by decide) (Same.rf _ _) (fun g g0 g1 => by rw [sumI_0]; exact hz2 g g0 g1)
      have hT3 := hT2.same hS3 (by decide)
      refine wp_aload_n (pc' := 64) rfl rfl rfl (by decide) ?_
      refine wp_iload (pc' := 66) rfl rfl rfl ?_
      refine wp_iload (pc' := 68) rfl rfl rfl ?_
      refine wp_call (pc' := 71) rfl rfl rfl rfl rfl ⟨Nat.le_of_ble_eq_true rfl, Nat.le_of_ble_eq_true rfl, Nat.le_of_ble_eq_true rfl, Nat.le_of_ble_eq_true rfl, Nat.le_of_ble_eq_true rfl⟩ rfl (c_Clues_takeIfLess hT3) ?_
      rintro v1 w4 ⟨hv1, hS4, h45⟩
      rw [hv1]
      clear hv1 v1
      have hmx : maxN (w3 46) 31 = (fun y => sPart set (fun x => sG (w 3 0) x (w 5 i0) y) 6) y := by
        show _ = sPart _ _ _
        unfold sPart
        exact maxN_congr (fun g g0 g1 => by rw [hz3 g g0 (by omega), f3, f5])
      have h450 : w3 45 0 = w1 45 0 := by rw [hS3 45 (by decide), hS2 45 (by decide)]
      rw [hmx, h450, hq2] at h45
      rw [hmx, h450, hq2]
      dsimp only [Option.toList, List.cons_append, List.nil_append, List.append_nil]
      refine wp_istore (pc' := 73) rfl rfl (Nat.le_of_ble_eq_true rfl) rfl ?_
      dsimp only [lset, lset2, List.set, List.getElem?_cons_zero, List.getElem?_cons_succ]
      refine wp_iinc (pc' := 76) rfl rfl rfl (inc_id (by omega) (by omega)) rfl ?_
      dsimp only [lset, lset2, List.set, List.getElem?_cons_zero, List.getElem?_cons_succ]
      refine wp_goto (pc' := 12) rfl rfl ?_
      refine ih (m + 1) _ _ w4 _ (by omega) (by omega) ((hS.tr ((hS2.tr hS3).F _)).tr (hS4.mono (fun r hr => absurd hr (by simp)) (fun q hq => Or.inl hq))) ?_ ?_
      · rw [bestSt, hq1, hy]
        by_cases hlt : (fun y => sPart set (fun x => sG (w 3 0) x (w 5 i0) y) 6) (m : Int) < (bestSt (fun y => sPart set (fun x => sG (w 3 0) x (w 5 i0) y) 6) 7 m).2
        · rw [if_pos hlt, if_pos hlt]
        · rw [if_neg hlt, if_neg hlt]
      · rw [h45, bestSt, hy]
        by_cases hlt : (fun y => sPart set (fun x => sG (w 3 0) x (w 5 i0) y) 6) (m : Int) < (bestSt (fun y => sPart set (fun x => sG (w 3 0) x (w 5 i0) y) 6) 7 m).2
        · rw [if_pos hlt, if_pos hlt]
        · rw [if_neg hlt, if_neg hlt]
set_option maxRecDepth 20000 in
set_option maxHeartbeats 4000000 in
theorem c_Clues_bestTeller {w : Hp} {d : Nat} {set : Int} (hl : LnOK w) (hT0 : Stc w) : WP SH (d + 3) 17 0 [some (vR 45), some (vR 3), some (vI set), none, none, none] [] w (fun v w' => v = some (vI (bestSt (fun i => sPart set (fun x => sG (w 3 0) (w 4 i) (w 5 i) x) (w 3 0 * w 3 1)) 26 (w 3 2).toNat).1) ∧ SameF w w' [46] [(45, 0)] ∧ w' 45 0 = (bestSt (fun i => sPart set (fun x => sG (w 3 0) (w 4 i) (w 5 i) x) (w 3 0 * w 3 1)) 26 (w 3 2).toNat).2) := by
  refine wp_iconst (a := 0) (pc' := 1) rfl rfl rfl ?_
  refine wp_istore_n (pc' := 2) rfl rfl (Nat.le_of_ble_eq_true rfl) rfl ?_
  dsimp only [lset, lset2, List.set, List.getElem?_cons_zero, List.getElem?_cons_succ]
  refine wp_aload_n (pc' := 3) rfl rfl rfl (by decide) ?_
  refine wp_bipush (a := 26) (pc' := 5) rfl rfl rfl ?_
  refine wp_putI (ci := 2) (k0 := 0) (pc' := 8) rfl rfl (by decide) (by first | assumption | rfl) ?_
  refine wp_iconst (a := 0) (pc' := 9) rfl rfl rfl ?_
  refine wp_istore (pc' := 11) rfl rfl (Nat.le_of_ble_eq_true rfl) rfl ?_
  dsimp only [lset, lset2, List.set, List.getElem?_cons_zero, List.getElem?_cons_succ]
  have hS : SameF w (up w 45 0 26) [46] [(45, 0)] := (SameF.rf _ _ _).put (Or.inr (by decide))
  have hg := l_teller (set := set) (w := w) (d := d) hl hT0 (w 3 2).toNat 0 0 0 (up w 45 0 26) none rfl (by omega) hS rfl (up_eq _ _ _ _)
  exact hg
set_option maxRecDepth 20000 in
set_option maxHeartbeats 4000000 in
theorem c_Clues_bestCell {w : Hp} {d : Nat} {set i0 : Int} (hl : LnOK w) (hi : 0 ≤ i0 ∧ i0 < w 3 2) (hT0 : Stc w) : WP SH (d + 3) 18 0 [some (vR 45), some (vR 3), some (vI i0), some (vI set), none, none, none] [] w (fun v w' => v = some (vI (bestSt (fun y => sPart set (fun x => sG (w 3 0) x (w 5 i0) y) 6) 7 (w 3 0 * w 3 1).toNat).1) ∧ SameF w w' [46] [(45, 0)] ∧ w' 45 0 = (bestSt (fun y => sPart set (fun x => sG (w 3 0) x (w 5 i0) y) 6) 7 (w 3 0 * w 3 1).toNat).2) := by
  refine wp_iconst (a := 0) (pc' := 1) rfl rfl rfl ?_
  refine wp_istore (pc' := 3) rfl rfl (Nat.le_of_ble_eq_true rfl) rfl ?_
  dsimp only [lset, lset2, List.set, List.getElem?_cons_zero, List.getElem?_cons_succ]
  refine wp_aload_n (pc' := 4) rfl rfl rfl (by decide) ?_
  refine wp_bipush (a := 7) (pc' := 6) rfl rfl rfl ?_
  refine wp_putI (ci := 2) (k0 := 0) (pc' := 9) rfl rfl (by decide) (by first | assumption | rfl) ?_
  refine wp_iconst (a := 0) (pc' := 10) rfl rfl rfl ?_
  refine wp_istore (pc' := 12) rfl rfl (Nat.le_of_ble_eq_true rfl) rfl ?_
  dsimp only [lset, lset2, List.set, List.getElem?_cons_zero, List.getElem?_cons_succ]
  have hS : SameF w (up w 45 0 7) [46] [(45, 0)] := (SameF.rf _ _ _).put (Or.inr (by decide))
  have hg := l_bestCell (set := set) (w := w) (d := d) hl hi hT0 (w 3 0 * w 3 1).toNat 0 0 0 (up w 45 0 7) none rfl (by omega) hS rfl (up_eq _ _ _ _)
  exact hg
