/-! count -/
def fWid (K : Int → Int) : Int → Int := fun i => if K i = 2 ∨ K i = 4 then 1 else 0
def fPr (Z : Int → Int) : Int → Int := fun r => if Z r = -1 then 0 else 1
def fKe (Z : Int → Int) : Int → Int := fun r => if Z r = 0 then 0 else 1
theorem fWid01 (K : Int → Int) (j : Int) : fWid K j = 0 ∨ fWid K j = 1 := by unfold fWid; split <;> simp
theorem fPr01 (K : Int → Int) (j : Int) : fPr K j = 0 ∨ fPr K j = 1 := by unfold fPr; split <;> simp
theorem fKe01 (K : Int → Int) (j : Int) : fKe K j = 0 ∨ fKe K j = 1 := by unfold fKe; split <;> simp
def sCntX (w : Hp) (q : Int) : Int := if q = 0 then w 3 2 else if q = 1 then w 3 0 * w 3 1 else if q = 2 then w 3 3 else if q = 3 then w 3 6 else if q = 4 then w 3 5 else if q = 5 then w 3 4 else if q = 6 then sumI (fHs (w 6) (-1)) (w 3 2) else if q = 7 then sumI (fWid (w 4)) (w 3 2) else if q = 8 then sumI (fPr (fun r => w (53 + 2 * r) 1)) 6 else if q = 9 then sumI (fPr (fun r => w (65 + 2 * r) 1)) 4 else if q = 10 then sumI (fKe (fun k => w (73 + 9 * k) 0)) 3 else -1
def fC1 (w : Hp) (q : Int) : Int → Int := fun i => if q = 6 then w 108 i else if q = 7 ∧ (w 107 i = 2 ∨ w 107 i = 4) then 1 else 0
def fC2 (Z : Int → Int) (b : Prop) [Decidable b] : Int → Int := fun r => if b ∧ 0 ≤ Z r then 1 else 0
def fC4 (Z : Int → Int) (b : Prop) [Decidable b] : Int → Int := fun r => if b ∧ Z r ≠ 0 then 1 else 0
theorem fC201 (Z : Int → Int) (b : Prop) [Decidable b] (j : Int) : fC2 Z b j = 0 ∨ fC2 Z b j = 1 := by unfold fC2; split <;> simp
theorem fC401 (Z : Int → Int) (b : Prop) [Decidable b] (j : Int) : fC4 Z b j = 0 ∨ fC4 Z b j = 1 := by unfold fC4; split <;> simp
def sCntS (w : Hp) (q : Int) : Int := sumI (fC1 w q) (w 100 10) + sumI (fC2 (w 102) (q = 8)) 6 + sumI (fC2 (w 105) (q = 9)) 4 + sumI (fC4 (w 115) (q = 10)) 3
def sCntM (w : Hp) (q : Int) : Int := if q = 0 then w 100 10 else if q = 1 then w 100 11 * w 100 12 else if q = 2 then w 109 0 else if q = 3 then w 100 23 else if q = 4 then w 109 2 else if q = 5 then w 109 1 else sCntS w q
theorem sum0 {f : Int → Int} {n : Int} (h : ∀ j : Int, 0 ≤ j → j < n → f j = 0) : sumI f n = 0 := by
  have h1 : sumI f n = sumI (fun _ => 0) n := sumI_congr h
  have h2 : ∀ m : Nat, sumN (fun _ => (0 : Int)) m = 0 := fun m => by
    induction m with
    | zero => rfl
    | succ m ih => show sumN (fun _ => (0 : Int)) m + 0 = 0; rw [ih]; rfl
  rw [h1]
  exact h2 _
theorem cnt_eq {w : Hp} (h : Inv w) {q : Int} (h0 : 0 ≤ q) (h10 : q ≤ 10) : sCntX w q = sCntM w q := by
  obtain ⟨hn25, b11, b12, b10, hn6, hem, m0, m1, m2, m23, hyr, hdd, hpre⟩ := h.base
  obtain ⟨-, -, -, -, hR, hX, -, hK⟩ := h
  have hq : q = 0 ∨ q = 1 ∨ q = 2 ∨ q = 3 ∨ q = 4 ∨ q = 5 ∨ q = 6 ∨ q = 7 ∨ q = 8 ∨ q = 9 ∨ q = 10 := by omega
  have z1 : ∀ q : Int, q ≠ 6 → q ≠ 7 → sumI (fC1 w q) (w 100 10) = 0 := fun q a b => sum0 (fun j _ _ => by unfold fC1; rw [if_neg a, if_neg (fun z => b z.1)])
  have z2 : ∀ q : Int, q ≠ 8 → sumI (fC2 (w 102) (q = 8)) 6 = 0 := fun q a => sum0 (fun j _ _ => by unfold fC2; rw [if_neg (fun z => a z.1)])
  have z3 : ∀ q : Int, q ≠ 9 → sumI (fC2 (w 105) (q = 9)) 4 = 0 := fun q a => sum0 (fun j _ _ => by unfold fC2; rw [if_neg (fun z => a z.1)])
  have z4 : ∀ q : Int, q ≠ 10 → sumI (fC4 (w 115) (q = 10)) 3 = 0 := fun q a => sum0 (fun j _ _ => by unfold fC4; rw [if_neg (fun z => a z.1)])
  have hp : ∀ j : Int, 0 ≤ j → j < w 3 2 → w 107 j = w 4 j ∧ w 108 j = w 6 j := fun j a b => ⟨((hpre (by omega)).2.2.2.2 j a b).1, ((hpre (by omega)).2.2.2.2 j a b).2.2⟩
  rcases hq with rfl | rfl | rfl | rfl | rfl | rfl | rfl | rfl | rfl | rfl | rfl
  · exact b10.symm
  · show w 3 0 * w 3 1 = w 100 11 * w 100 12
    rw [b11, b12]
  · exact m0.symm
  · exact m23.symm
  · exact m2.symm
  · exact m1.symm
  · show sumI (fHs (w 6) (-1)) (w 3 2) = sCntS w 6
    unfold sCntS
    rw [z2 6 (by decide), z3 6 (by decide), z4 6 (by decide), b10, Int.add_zero, Int.add_zero, Int.add_zero]
    refine sumI_congr (fun j a b => ?_)
    unfold fHs fC1
    rw [bit_neg1 (i := j) ⟨a, by omega⟩, if_pos rfl, (hp j a b).2]
    omega
  · show sumI (fWid (w 4)) (w 3 2) = sCntS w 7
    unfold sCntS
    rw [z2 7 (by decide), z3 7 (by decide), z4 7 (by decide), b10, Int.add_zero, Int.add_zero, Int.add_zero]
    refine sumI_congr (fun j a b => ?_)
    unfold fWid fC1
    rw [if_neg (show ¬ (7 : Int) = 6 by decide), (hp j a b).1]
    by_cases hz : w 4 j = 2 ∨ w 4 j = 4
    · rw [if_pos hz, if_pos ⟨rfl, hz⟩]
    · rw [if_neg hz, if_neg (fun z => hz z.2)]
  · show sumI (fPr (fun r => w (53 + 2 * r) 1)) 6 = sCntS w 8
    unfold sCntS
    rw [z1 8 (by decide) (by decide), z3 8 (by decide), z4 8 (by decide), Int.zero_add, Int.add_zero, Int.add_zero]
    refine sumI_congr (fun j a b => ?_)
    have hj := hR j a b
    unfold fPr fC2
    dsimp only
    by_cases hz : 0 ≤ w 102 j
    · rw [if_neg (by omega), if_pos ⟨rfl, hz⟩]
    · rw [if_pos (by omega), if_neg (fun z => hz z.2)]
  · show sumI (fPr (fun r => w (65 + 2 * r) 1)) 4 = sCntS w 9
    unfold sCntS
    rw [z1 9 (by decide) (by decide), z2 9 (by decide), z4 9 (by decide), Int.zero_add, Int.zero_add, Int.add_zero]
    refine sumI_congr (fun j a b => ?_)
    have hj := hX j a b
    unfold fPr fC2
    dsimp only
    by_cases hz : 0 ≤ w 105 j
    · rw [if_neg (by omega), if_pos ⟨rfl, hz⟩]
    · rw [if_pos (by omega), if_neg (fun z => hz z.2)]
  · show sumI (fKe (fun k => w (73 + 9 * k) 0)) 3 = sCntS w 10
    unfold sCntS
    rw [z1 10 (by decide) (by decide), z2 10 (by decide), z3 10 (by decide), Int.zero_add, Int.zero_add, Int.zero_add]
    refine sumI_congr (fun j a b => ?_)
    unfold fKe fC4
    dsimp only
    rcases hK.emp a b with z | z
    · rw [if_pos z.2, if_neg (fun y => y.2 z.1)]
    · rw [if_neg z.2.1, if_pos ⟨rfl, by omega⟩]
set_option maxRecDepth 20000 in
set_option maxHeartbeats 4000000 in
theorem l_widows {w : Hp} {d : Nat} (hT : Stc w) (hr : ROw w) (hn : 0 ≤ w 3 2 ∧ w 3 2 ≤ 6) (hp : ∀ i : Int, 0 ≤ i → i < w 3 2 → 0 ≤ w 4 i ∧ w 4 i ≤ 5) : ∀ (k : Nat) (i s : Int), 0 ≤ i → i + k = w 3 2 → s = sumI (fWid (w 4)) i → WP SH (d + 1) 43 4 [some (vR 3), some (vI s), some (vI i)] [] w (fun v w' => v = some (vI (sumI (fWid (w 4)) (w 3 2))) ∧ w' = w) := by
  intro k
  induction k with
  | zero =>
    intro i s h0 hik hs
    have hbd := sum01 (n := i) (f := (fWid (w 4))) h0 (fWid01 _)
    rw [← hs] at hbd
    refine wp_iload_n (pc' := 5) rfl rfl rfl ?_
    refine wp_aload_n (pc' := 6) rfl rfl rfl (by decide) ?_
    refine wp_getI (ci := 3) (k0 := 2) (pc' := 9) rfl rfl (by decide) (by first | assumption | rfl) ?_
    refine wp_icmp_ge (pc' := 12) (pt := 35) rfl rfl rfl (fun q_1 => ?_) (fun q_1 => ?_)
    · skip
      refine wp_iload_n (pc' := 36) rfl rfl rfl ?_
      refine wp_ret rfl rfl rfl ?_
      obtain rfl : i = w 3 2 := by omega
      exact ⟨by rw [hs], rfl⟩
    · skip
      exfalso; omega
  | succ k ih =>
    intro i s h0 hik hs
    have hbd := sum01 (n := i) (f := (fWid (w 4))) h0 (fWid01 _)
    rw [← hs] at hbd
    refine wp_iload_n (pc' := 5) rfl rfl rfl ?_
    refine wp_aload_n (pc' := 6) rfl rfl rfl (by decide) ?_
    refine wp_getI (ci := 3) (k0 := 2) (pc' := 9) rfl rfl (by decide) (by first | assumption | rfl) ?_
    refine wp_icmp_ge (pc' := 12) (pt := 35) rfl rfl rfl (fun q_1 => ?_) (fun q_1 => ?_)
    · skip
      exfalso; omega
    · skip
      refine wp_iload_n (pc' := 13) rfl rfl rfl ?_
      refine wp_aload_n (pc' := 14) rfl rfl rfl (by decide) ?_
      refine wp_iload_n (pc' := 15) rfl rfl rfl ?_
      refine wp_iconst (a := 2) (pc' := 16) rfl rfl rfl ?_
      refine wp_call (pc' := 19) rfl rfl rfl rfl rfl ⟨Nat.le_of_ble_eq_true rfl, Nat.le_of_ble_eq_true rfl, Nat.le_of_ble_eq_true rfl, Nat.le_of_ble_eq_true rfl, Nat.le_of_ble_eq_true rfl⟩ rfl (c_Land_isOf hr hT (by omega) (hp i h0 (by omega))) ?_
      rintro v1 w9 ⟨hw9, ⟨hv1, hof⟩ | ⟨hv1, hof⟩⟩
      · skip
        rw [hv1, hw9]
        clear hv1 hw9 v1 w9
        unfold sWider at hof
        dsimp only [Option.toList, List.cons_append, List.nil_append, List.append_nil]
        refine wp_if_eq (pc' := 22) (pt := 26) rfl rfl rfl (fun q_2 => absurd q_2 (by decide)) (fun q_2 => ?_)
        refine wp_iconst (a := 1) (pc' := 23) rfl rfl rfl ?_
        refine wp_goto (pc' := 27) rfl rfl ?_
        refine wp_iadd (pc' := 28) rfl rfl (by first | exact w32_id (by omega) (by omega) | rfl) ?_
        refine wp_istore_n (pc' := 29) rfl rfl (Nat.le_of_ble_eq_true rfl) rfl ?_
        dsimp only [lset, lset2, List.set, List.getElem?_cons_zero, List.getElem?_cons_succ]
        refine wp_iinc (pc' := 32) rfl rfl rfl (inc_id (by omega) (by omega)) rfl ?_
        dsimp only [lset, lset2, List.set, List.getElem?_cons_zero, List.getElem?_cons_succ]
        refine wp_goto (pc' := 4) rfl rfl ?_
        exact ih (i + 1) _ (by omega) (by omega) (by rw [sumI_s _ h0, ← hs]; unfold fWid; (repeat' split at hof) <;> (repeat' split) <;> first | rfl | (exfalso; omega))
      · skip
        rw [hv1, hw9]
        clear hv1 hw9 v1 w9
        unfold sWider at hof
        dsimp only [Option.toList, List.cons_append, List.nil_append, List.append_nil]
        refine wp_if_eq (pc' := 22) (pt := 26) rfl rfl rfl (fun q_3 => ?_) (fun q_3 => absurd (by decide) q_3)
        refine wp_iconst (a := 0) (pc' := 27) rfl rfl rfl ?_
        refine wp_iadd (pc' := 28) rfl rfl (by first | exact w32_id (by omega) (by omega) | rfl) ?_
        refine wp_istore_n (pc' := 29) rfl rfl (Nat.le_of_ble_eq_true rfl) rfl ?_
        dsimp only [lset, lset2, List.set, List.getElem?_cons_zero, List.getElem?_cons_succ]
        refine wp_iinc (pc' := 32) rfl rfl rfl (inc_id (by omega) (by omega)) rfl ?_
        dsimp only [lset, lset2, List.set, List.getElem?_cons_zero, List.getElem?_cons_succ]
        refine wp_goto (pc' := 4) rfl rfl ?_
        exact ih (i + 1) _ (by omega) (by omega) (by rw [sumI_s _ h0, ← hs]; unfold fWid; (repeat' split at hof) <;> (repeat' split) <;> first | rfl | (exfalso; omega))
set_option maxRecDepth 20000 in
set_option maxHeartbeats 4000000 in
theorem c_Land_widows {w : Hp} {d : Nat} (hT : Stc w) (hr : ROw w) (hn : 0 ≤ w 3 2 ∧ w 3 2 ≤ 6) (hp : ∀ i : Int, 0 ≤ i → i < w 3 2 → 0 ≤ w 4 i ∧ w 4 i ≤ 5) : WP SH (d + 1) 43 0 [some (vR 3), none, none] [] w (fun v w' => v = some (vI (sumI (fWid (w 4)) (w 3 2))) ∧ w' = w) := by
  refine wp_iconst (a := 0) (pc' := 1) rfl rfl rfl ?_
  refine wp_istore_n (pc' := 2) rfl rfl (Nat.le_of_ble_eq_true rfl) rfl ?_
  dsimp only [lset, lset2, List.set, List.getElem?_cons_zero, List.getElem?_cons_succ]
  refine wp_iconst (a := 0) (pc' := 3) rfl rfl rfl ?_
  refine wp_istore_n (pc' := 4) rfl rfl (Nat.le_of_ble_eq_true rfl) rfl ?_
  dsimp only [lset, lset2, List.set, List.getElem?_cons_zero, List.getElem?_cons_succ]
  exact l_widows hT hr hn hp (w 3 2).toNat 0 0 (by decide) (by omega) rfl
set_option maxRecDepth 20000 in
set_option maxHeartbeats 4000000 in
theorem l_present_rows {w : Hp} {d : Nat} (hT : Stc w) : ∀ (k : Nat) (i s : Int), 0 ≤ i → i + k = 6 → s = sumI (fPr (fun r => w (53 + 2 * r) 1)) i → WP SH (d + 1) 134 4 [some (vR 1), some (vI s), some (vI i)] [] w (fun v w' => v = some (vI (sumI (fPr (fun r => w (53 + 2 * r) 1)) (6))) ∧ w' = w) := by
  intro k
  induction k with
  | zero =>
    intro i s h0 hik hs
    have hbd := sum01 (n := i) (f := (fPr (fun r => w (53 + 2 * r) 1))) h0 (fPr01 _)
    rw [← hs] at hbd
    refine wp_iload_n (pc' := 5) rfl rfl rfl ?_
    refine wp_aload_n (pc' := 6) rfl rfl rfl (by decide) ?_
    refine wp_alen (pc' := 7) rfl rfl (by first | assumption | rfl) (by first | decide | omega) ?_
    refine wp_icmp_ge (pc' := 10) (pt := 33) rfl rfl rfl (fun q_1 => ?_) (fun q_1 => ?_)
    · skip
      refine wp_iload_n (pc' := 34) rfl rfl rfl ?_
      refine wp_ret rfl rfl rfl ?_
      obtain rfl : i = 6 := by omega
      exact ⟨by rw [hs], rfl⟩
    · skip
      exfalso; omega
  | succ k ih =>
    intro i s h0 hik hs
    have hbd := sum01 (n := i) (f := (fPr (fun r => w (53 + 2 * r) 1))) h0 (fPr01 _)
    rw [← hs] at hbd
    refine wp_iload_n (pc' := 5) rfl rfl rfl ?_
    refine wp_aload_n (pc' := 6) rfl rfl rfl (by decide) ?_
    refine wp_alen (pc' := 7) rfl rfl (by first | assumption | rfl) (by first | decide | omega) ?_
    refine wp_icmp_ge (pc' := 10) (pt := 33) rfl rfl rfl (fun q_1 => ?_) (fun q_1 => ?_)
    · skip
      exfalso; omega
    · skip
      refine wp_iload_n (pc' := 11) rfl rfl rfl ?_
      refine wp_aload_n (pc' := 12) rfl rfl rfl (by decide) ?_
      refine wp_iload_n (pc' := 13) rfl rfl rfl ?_
      refine wp_aaload (r' := 53 + 2 * i) (pc' := 14) rfl rfl (by first | assumption | rfl) rfl (by omega) ((strip_row hT h0 (by omega)).2) ?_
      refine wp_call (pc' := 17) rfl rfl rfl rfl rfl ⟨Nat.le_of_ble_eq_true rfl, Nat.le_of_ble_eq_true rfl, Nat.le_of_ble_eq_true rfl, Nat.le_of_ble_eq_true rfl, Nat.le_of_ble_eq_true rfl⟩ (by have hi7 : i = 0 ∨ i = 1 ∨ i = 2 ∨ i = 3 ∨ i = 4 ∨ i = 5 := (by omega); rcases hi7 with rfl | rfl | rfl | rfl | rfl | rfl <;> rfl) (c_Strip_isMissing (strip_row hT h0 (by omega)).1) ?_
      rintro v1 w9 ⟨hw9, ⟨hv1, hms⟩ | ⟨hv1, hms⟩⟩
      · skip
        rw [hv1, hw9]
        clear hv1 hw9 v1 w9
        dsimp only [Option.toList, List.cons_append, List.nil_append, List.append_nil]
        refine wp_if_eq (pc' := 20) (pt := 24) rfl rfl rfl (fun q_2 => absurd q_2 (by decide)) (fun q_2 => ?_)
        refine wp_iconst (a := 0) (pc' := 21) rfl rfl rfl ?_
        refine wp_goto (pc' := 25) rfl rfl ?_
        refine wp_iadd (pc' := 26) rfl rfl (by first | exact w32_id (by omega) (by omega) | rfl) ?_
        refine wp_istore_n (pc' := 27) rfl rfl (Nat.le_of_ble_eq_true rfl) rfl ?_
        dsimp only [lset, lset2, List.set, List.getElem?_cons_zero, List.getElem?_cons_succ]
        refine wp_iinc (pc' := 30) rfl rfl rfl (inc_id (by omega) (by omega)) rfl ?_
        dsimp only [lset, lset2, List.set, List.getElem?_cons_zero, List.getElem?_cons_succ]
        refine wp_goto (pc' := 4) rfl rfl ?_
        exact ih (i + 1) _ (by omega) (by omega) (by rw [sumI_s _ h0, ← hs]; unfold fPr; dsimp only; split <;> first | rfl | (exfalso; omega))
      · skip
        rw [hv1, hw9]
        clear hv1 hw9 v1 w9
        dsimp only [Option.toList, List.cons_append, List.nil_append, List.append_nil]
        refine wp_if_eq (pc' := 20) (pt := 24) rfl rfl rfl (fun q_3 => ?_) (fun q_3 => absurd (by decide) q_3)
        refine wp_iconst (a := 1) (pc' := 25) rfl rfl rfl ?_
        refine wp_iadd (pc' := 26) rfl rfl (by first | exact w32_id (by omega) (by omega) | rfl) ?_
        refine wp_istore_n (pc' := 27) rfl rfl (Nat.le_of_ble_eq_true rfl) rfl ?_
        dsimp only [lset, lset2, List.set, List.getElem?_cons_zero, List.getElem?_cons_succ]
        refine wp_iinc (pc' := 30) rfl rfl rfl (inc_id (by omega) (by omega)) rfl ?_
        dsimp only [lset, lset2, List.set, List.getElem?_cons_zero, List.getElem?_cons_succ]
        refine wp_goto (pc' := 4) rfl rfl ?_
        exact ih (i + 1) _ (by omega) (by omega) (by rw [sumI_s _ h0, ← hs]; unfold fPr; dsimp only; split <;> first | rfl | (exfalso; omega))
set_option maxRecDepth 20000 in
set_option maxHeartbeats 4000000 in
theorem c_VH_present_rows {w : Hp} {d : Nat} (hT : Stc w) : WP SH (d + 1) 134 0 [some (vR 1), none, none] [] w (fun v w' => v = some (vI (sumI (fPr (fun r => w (53 + 2 * r) 1)) 6)) ∧ w' = w) := by
  refine wp_iconst (a := 0) (pc' := 1) rfl rfl rfl ?_
  refine wp_istore_n (pc' := 2) rfl rfl (Nat.le_of_ble_eq_true rfl) rfl ?_
  dsimp only [lset, lset2, List.set, List.getElem?_cons_zero, List.getElem?_cons_succ]
  refine wp_iconst (a := 0) (pc' := 3) rfl rfl rfl ?_
  refine wp_istore_n (pc' := 4) rfl rfl (Nat.le_of_ble_eq_true rfl) rfl ?_
  dsimp only [lset, lset2, List.set, List.getElem?_cons_zero, List.getElem?_cons_succ]
  exact l_present_rows hT 6 0 0 (by decide) (by decide) rfl
set_option maxRecDepth 20000 in
set_option maxHeartbeats 4000000 in
theorem l_present_texts {w : Hp} {d : Nat} (hT : Stc w) : ∀ (k : Nat) (i s : Int), 0 ≤ i → i + k = 4 → s = sumI (fPr (fun r => w (65 + 2 * r) 1)) i → WP SH (d + 1) 134 4 [some (vR 2), some (vI s), some (vI i)] [] w (fun v w' => v = some (vI (sumI (fPr (fun r => w (65 + 2 * r) 1)) (4))) ∧ w' = w) := by
  intro k
  induction k with
  | zero =>
    intro i s h0 hik hs
    have hbd := sum01 (n := i) (f := (fPr (fun r => w (65 + 2 * r) 1))) h0 (fPr01 _)
    rw [← hs] at hbd
    refine wp_iload_n (pc' := 5) rfl rfl rfl ?_
    refine wp_aload_n (pc' := 6) rfl rfl rfl (by decide) ?_
    refine wp_alen (pc' := 7) rfl rfl (by first | assumption | rfl) (by first | decide | omega) ?_
    refine wp_icmp_ge (pc' := 10) (pt := 33) rfl rfl rfl (fun q_1 => ?_) (fun q_1 => ?_)
    · skip
      refine wp_iload_n (pc' := 34) rfl rfl rfl ?_
      refine wp_ret rfl rfl rfl ?_
      obtain rfl : i = 4 := by omega
      exact ⟨by rw [hs], rfl⟩
    · skip
      exfalso; omega
  | succ k ih =>
    intro i s h0 hik hs
    have hbd := sum01 (n := i) (f := (fPr (fun r => w (65 + 2 * r) 1))) h0 (fPr01 _)
    rw [← hs] at hbd
    refine wp_iload_n (pc' := 5) rfl rfl rfl ?_
    refine wp_aload_n (pc' := 6) rfl rfl rfl (by decide) ?_
    refine wp_alen (pc' := 7) rfl rfl (by first | assumption | rfl) (by first | decide | omega) ?_
    refine wp_icmp_ge (pc' := 10) (pt := 33) rfl rfl rfl (fun q_1 => ?_) (fun q_1 => ?_)
    · skip
      exfalso; omega
    · skip
      refine wp_iload_n (pc' := 11) rfl rfl rfl ?_
      refine wp_aload_n (pc' := 12) rfl rfl rfl (by decide) ?_
      refine wp_iload_n (pc' := 13) rfl rfl rfl ?_
      refine wp_aaload (r' := 65 + 2 * i) (pc' := 14) rfl rfl (by first | assumption | rfl) rfl (by omega) ((strip_text hT h0 (by omega)).2) ?_
      refine wp_call (pc' := 17) rfl rfl rfl rfl rfl ⟨Nat.le_of_ble_eq_true rfl, Nat.le_of_ble_eq_true rfl, Nat.le_of_ble_eq_true rfl, Nat.le_of_ble_eq_true rfl, Nat.le_of_ble_eq_true rfl⟩ (by have hi7 : i = 0 ∨ i = 1 ∨ i = 2 ∨ i = 3 := (by omega); rcases hi7 with rfl | rfl | rfl | rfl <;> rfl) (c_Strip_isMissing (strip_text hT h0 (by omega)).1) ?_
      rintro v1 w9 ⟨hw9, ⟨hv1, hms⟩ | ⟨hv1, hms⟩⟩
      · skip
        rw [hv1, hw9]
        clear hv1 hw9 v1 w9
        dsimp only [Option.toList, List.cons_append, List.nil_append, List.append_nil]
        refine wp_if_eq (pc' := 20) (pt := 24) rfl rfl rfl (fun q_2 => absurd q_2 (by decide)) (fun q_2 => ?_)
        refine wp_iconst (a := 0) (pc' := 21) rfl rfl rfl ?_
        refine wp_goto (pc' := 25) rfl rfl ?_
        refine wp_iadd (pc' := 26) rfl rfl (by first | exact w32_id (by omega) (by omega) | rfl) ?_
        refine wp_istore_n (pc' := 27) rfl rfl (Nat.le_of_ble_eq_true rfl) rfl ?_
        dsimp only [lset, lset2, List.set, List.getElem?_cons_zero, List.getElem?_cons_succ]
        refine wp_iinc (pc' := 30) rfl rfl rfl (inc_id (by omega) (by omega)) rfl ?_
        dsimp only [lset, lset2, List.set, List.getElem?_cons_zero, List.getElem?_cons_succ]
        refine wp_goto (pc' := 4) rfl rfl ?_
        exact ih (i + 1) _ (by omega) (by omega) (by rw [sumI_s _ h0, ← hs]; unfold fPr; dsimp only; split <;> first | rfl | (exfalso; omega))
      · skip
        rw [hv1, hw9]
        clear hv1 hw9 v1 w9
        dsimp only [Option.toList, List.cons_append, List.nil_append, List.append_nil]
        refine wp_if_eq (pc' := 20) (pt := 24) rfl rfl rfl (fun q_3 => ?_) (fun q_3 => absurd (by decide) q_3)
        refine wp_iconst (a := 1) (pc' := 25) rfl rfl rfl ?_
        refine wp_iadd (pc' := 26) rfl rfl (by first | exact w32_id (by omega) (by omega) | rfl) ?_
        refine wp_istore_n (pc' := 27) rfl rfl (Nat.le_of_ble_eq_true rfl) rfl ?_
        dsimp only [lset, lset2, List.set, List.getElem?_cons_zero, List.getElem?_cons_succ]
        refine wp_iinc (pc' := 30) rfl rfl rfl (inc_id (by omega) (by omega)) rfl ?_
        dsimp only [lset, lset2, List.set, List.getElem?_cons_zero, List.getElem?_cons_succ]
        refine wp_goto (pc' := 4) rfl rfl ?_
        exact ih (i + 1) _ (by omega) (by omega) (by rw [sumI_s _ h0, ← hs]; unfold fPr; dsimp only; split <;> first | rfl | (exfalso; omega))
set_option maxRecDepth 20000 in
set_option maxHeartbeats 4000000 in
theorem c_VH_present_texts {w : Hp} {d : Nat} (hT : Stc w) : WP SH (d + 1) 134 0 [some (vR 2), none, none] [] w (fun v w' => v = some (vI (sumI (fPr (fun r => w (65 + 2 * r) 1)) 4)) ∧ w' = w) := by
  refine wp_iconst (a := 0) (pc' := 1) rfl rfl rfl ?_
  refine wp_istore_n (pc' := 2) rfl rfl (Nat.le_of_ble_eq_true rfl) rfl ?_
  dsimp only [lset, lset2, List.set, List.getElem?_cons_zero, List.getElem?_cons_succ]
  refine wp_iconst (a := 0) (pc' := 3) rfl rfl rfl ?_
  refine wp_istore_n (pc' := 4) rfl rfl (Nat.le_of_ble_eq_true rfl) rfl ?_
  dsimp only [lset, lset2, List.set, List.getElem?_cons_zero, List.getElem?_cons_succ]
  exact l_present_texts hT 4 0 0 (by decide) (by decide) rfl
set_option maxRecDepth 20000 in
set_option maxHeartbeats 4000000 in
theorem l_keptLands {w : Hp} {d : Nat} (hT : Stc w) : ∀ (k : Nat) (i s : Int), 0 ≤ i → i + k = 3 → s = sumI (fKe (fun k => w (73 + 9 * k) 0)) i → WP SH (d + 1) 135 4 [some (vR 0), some (vI s), some (vI i)] [] w (fun v w' => v = some (vI (sumI (fKe (fun k => w (73 + 9 * k) 0)) (3))) ∧ w' = w) := by
  intro k
  induction k with
  | zero =>
    intro i s h0 hik hs
    have hbd := sum01 (n := i) (f := (fKe (fun k => w (73 + 9 * k) 0))) h0 (fKe01 _)
    rw [← hs] at hbd
    refine wp_iload_n (pc' := 5) rfl rfl rfl ?_
    refine wp_iconst (a := 3) (pc' := 6) rfl rfl rfl ?_
    refine wp_icmp_ge (pc' := 9) (pt := 35) rfl rfl rfl (fun q_1 => ?_) (fun q_1 => ?_)
    · skip
      refine wp_iload_n (pc' := 36) rfl rfl rfl ?_
      refine wp_ret rfl rfl rfl ?_
      obtain rfl : i = 3 := by omega
      exact ⟨by rw [hs], rfl⟩
    · skip
      exfalso; omega
  | succ k ih =>
    intro i s h0 hik hs
    have hbd := sum01 (n := i) (f := (fKe (fun k => w (73 + 9 * k) 0))) h0 (fKe01 _)
    rw [← hs] at hbd
    refine wp_iload_n (pc' := 5) rfl rfl rfl ?_
    refine wp_iconst (a := 3) (pc' := 6) rfl rfl rfl ?_
    refine wp_icmp_ge (pc' := 9) (pt := 35) rfl rfl rfl (fun q_1 => ?_) (fun q_1 => ?_)
    · skip
      exfalso; omega
    · skip
      refine wp_iload_n (pc' := 10) rfl rfl rfl ?_
      refine wp_aload_n (pc' := 11) rfl rfl rfl (by decide) ?_
      refine wp_getR (r' := 21) (ci := 9) (k0 := 4) (pc' := 14) rfl rfl (by decide) (by first | assumption | rfl) (hT.get 4 rfl) ?_
      refine wp_iload_n (pc' := 15) rfl rfl rfl ?_
      refine wp_aaload (r' := 73 + 9 * i) (pc' := 16) rfl rfl (by first | assumption | rfl) rfl (by omega) ((land_kept hT h0 (by omega)).2) ?_
      refine wp_call (pc' := 19) rfl rfl rfl rfl rfl ⟨Nat.le_of_ble_eq_true rfl, Nat.le_of_ble_eq_true rfl, Nat.le_of_ble_eq_true rfl, Nat.le_of_ble_eq_true rfl, Nat.le_of_ble_eq_true rfl⟩ (by have hi7 : i = 0 ∨ i = 1 ∨ i = 2 := (by omega); rcases hi7 with rfl | rfl | rfl <;> rfl) (c_Land_isEmpty_s (land_kept hT h0 (by omega)).1) ?_
      rintro v1 w9 ⟨hw9, ⟨hv1, hem⟩ | ⟨hv1, hem⟩⟩
      · skip
        rw [hv1, hw9]
        clear hv1 hw9 v1 w9
        dsimp only [Option.toList, List.cons_append, List.nil_append, List.append_nil]
        refine wp_if_eq (pc' := 22) (pt := 26) rfl rfl rfl (fun q_2 => absurd q_2 (by decide)) (fun q_2 => ?_)
        refine wp_iconst (a := 0) (pc' := 23) rfl rfl rfl ?_
        refine wp_goto (pc' := 27) rfl rfl ?_
        refine wp_iadd (pc' := 28) rfl rfl (by first | exact w32_id (by omega) (by omega) | rfl) ?_
        refine wp_istore_n (pc' := 29) rfl rfl (Nat.le_of_ble_eq_true rfl) rfl ?_
        dsimp only [lset, lset2, List.set, List.getElem?_cons_zero, List.getElem?_cons_succ]
        refine wp_iinc (pc' := 32) rfl rfl rfl (inc_id (by omega) (by omega)) rfl ?_
        dsimp only [lset, lset2, List.set, List.getElem?_cons_zero, List.getElem?_cons_succ]
        refine wp_goto (pc' := 4) rfl rfl ?_
        exact ih (i + 1) _ (by omega) (by omega) (by rw [sumI_s _ h0, ← hs]; unfold fKe; dsimp only; split <;> first | rfl | (exfalso; omega))
      · skip
        rw [hv1, hw9]
        clear hv1 hw9 v1 w9
        dsimp only [Option.toList, List.cons_append, List.nil_append, List.append_nil]
        refine wp_if_eq (pc' := 22) (pt := 26) rfl rfl rfl (fun q_3 => ?_) (fun q_3 => absurd (by decide) q_3)
        refine wp_iconst (a := 1) (pc' := 27) rfl rfl rfl ?_
        refine wp_iadd (pc' := 28) rfl rfl (by first | exact w32_id (by omega) (by omega) | rfl) ?_
        refine wp_istore_n (pc' := 29) rfl rfl (Nat.le_of_ble_eq_true rfl) rfl ?_
        dsimp only [lset, lset2, List.set, List.getElem?_cons_zero, List.getElem?_cons_succ]
        refine wp_iinc (pc' := 32) rfl rfl rfl (inc_id (by omega) (by omega)) rfl ?_
        dsimp only [lset, lset2, List.set, List.getElem?_cons_zero, List.getElem?_cons_succ]
        refine wp_goto (pc' := 4) rfl rfl ?_
        exact ih (i + 1) _ (by omega) (by omega) (by rw [sumI_s _ h0, ← hs]; unfold fKe; dsimp only; split <;> first | rfl | (exfalso; omega))
set_option maxRecDepth 20000 in
set_option maxHeartbeats 4000000 in
theorem c_VH_keptLands {w : Hp} {d : Nat} (hT : Stc w) : WP SH (d + 1) 135 0 [some (vR 0), none, none] [] w (fun v w' => v = some (vI (sumI (fKe (fun k => w (73 + 9 * k) 0)) 3)) ∧ w' = w) := by
  refine wp_iconst (a := 0) (pc' := 1) rfl rfl rfl ?_
  refine wp_istore_n (pc' := 2) rfl rfl (Nat.le_of_ble_eq_true rfl) rfl ?_
  dsimp only [lset, lset2, List.set, List.getElem?_cons_zero, List.getElem?_cons_succ]
  refine wp_iconst (a := 0) (pc' := 3) rfl rfl rfl ?_
  refine wp_istore_n (pc' := 4) rfl rfl (Nat.le_of_ble_eq_true rfl) rfl ?_
  dsimp only [lset, lset2, List.set, List.getElem?_cons_zero, List.getElem?_cons_succ]
  exact l_keptLands hT 3 0 0 (by decide) (by decide) rfl
set_option maxRecDepth 20000 in
set_option maxHeartbeats 4000000 in
theorem c_VH_count {w : Hp} {d : Nat} {q : Int} (hT : Stc w) (hr : ROw w) (hn25 : 0 ≤ w 3 0 * w 3 1 ∧ w 3 0 * w 3 1 ≤ 25) (hn : 0 ≤ w 3 2 ∧ w 3 2 ≤ 6) (hp : ∀ i : Int, 0 ≤ i → i < w 3 2 → (0 ≤ w 4 i ∧ w 4 i ≤ 5) ∧ (1 ≤ w 6 i ∧ w 6 i ≤ 9)) : WP SH (d + 2) 119 0 [some (vR 0), some (vI q)] [] w (fun v w' => v = some (vI (sCntX w q)) ∧ w' = w) := by
  refine wp_iload_n (pc' := 1) rfl rfl rfl ?_
  refine wp_swE (0) (pt := 60) rfl (by decide) rfl rfl (fun q_1 => ?_) (fun q_1 => ?_)
  · skip
    refine wp_aload_n (pc' := 61) rfl rfl rfl (by decide) ?_
    refine wp_getR (r' := 3) (ci := 9) (k0 := 2) (pc' := 64) rfl rfl (by decide) (by first | assumption | rfl) (hT.get 2 rfl) ?_
    refine wp_getI (ci := 3) (k0 := 2) (pc' := 67) rfl rfl (by decide) (by first | assumption | rfl) ?_
    refine wp_ret rfl rfl rfl ?_
    refine ⟨congrArg (fun z => some (vI z)) ?_, rfl⟩
    unfold sCntX
    (repeat' split) <;> first | rfl | (exfalso; omega)
  refine wp_swE (1) (pt := 68) rfl (by decide) rfl rfl (fun q_2 => ?_) (fun q_2 => ?_)
  · skip
    refine wp_aload_n (pc' := 69) rfl rfl rfl (by decide) ?_
    refine wp_getR (r' := 3) (ci := 9) (k0 := 2) (pc' := 72) rfl rfl (by decide) (by first | assumption | rfl) (hT.get 2 rfl) ?_
    refine wp_call (pc' := 75) rfl rfl rfl rfl rfl ⟨Nat.le_of_ble_eq_true rfl, Nat.le_of_ble_eq_true rfl, Nat.le_of_ble_eq_true rfl, Nat.le_of_ble_eq_true rfl, Nat.le_of_ble_eq_true rfl⟩ rfl (c_Land_cells hn25) ?_
    intro v1 w9 hq1
    rw [hq1.1, hq1.2]
    clear hq1 v1 w9
    dsimp only [Option.toList, List.cons_append, List.nil_append, List.append_nil]
    refine wp_ret rfl rfl rfl ?_
    refine ⟨congrArg (fun z => some (vI z)) ?_, rfl⟩
    unfold sCntX
    (repeat' split) <;> first | rfl | (exfalso; omega)
  refine wp_swE (2) (pt := 76) rfl (by decide) rfl rfl (fun q_3 => ?_) (fun q_3 => ?_)
  · skip
    refine wp_aload_n (pc' := 77) rfl rfl rfl (by decide) ?_
    refine wp_getR (r' := 3) (ci := 9) (k0 := 2) (pc' := 80) rfl rfl (by decide) (by first | assumption | rfl) (hT.get 2 rfl) ?_
    refine wp_getI (ci := 3) (k0 := 3) (pc' := 83) rfl rfl (by decide) (by first | assumption | rfl) ?_
    refine wp_ret rfl rfl rfl ?_
    refine ⟨congrArg (fun z => some (vI z)) ?_, rfl⟩
    unfold sCntX
    (repeat' split) <;> first | rfl | (exfalso; omega)
  refine wp_swE (3) (pt := 84) rfl (by decide) rfl rfl (fun q_4 => ?_) (fun q_4 => ?_)
  · skip
    refine wp_aload_n (pc' := 85) rfl rfl rfl (by decide) ?_
    refine wp_getR (r' := 3) (ci := 9) (k0 := 2) (pc' := 88) rfl rfl (by decide) (by first | assumption | rfl) (hT.get 2 rfl) ?_
    refine wp_getI (ci := 3) (k0 := 6) (pc' := 91) rfl rfl (by decide) (by first | assumption | rfl) ?_
    refine wp_ret rfl rfl rfl ?_
    refine ⟨congrArg (fun z => some (vI z)) ?_, rfl⟩
    unfold sCntX
    (repeat' split) <;> first | rfl | (exfalso; omega)
  refine wp_swE (4) (pt := 92) rfl (by decide) rfl rfl (fun q_5 => ?_) (fun q_5 => ?_)
  · skip
    refine wp_aload_n (pc' := 93) rfl rfl rfl (by decide) ?_
    refine wp_getR (r' := 3) (ci := 9) (k0 := 2) (pc' := 96) rfl rfl (by decide) (by first | assumption | rfl) (hT.get 2 rfl) ?_
    refine wp_getI (ci := 3) (k0 := 5) (pc' := 99) rfl rfl (by decide) (by first | assumption | rfl) ?_
    refine wp_ret rfl rfl rfl ?_
    refine ⟨congrArg (fun z => some (vI z)) ?_, rfl⟩
    unfold sCntX
    (repeat' split) <;> first | rfl | (exfalso; omega)
  refine wp_swE (5) (pt := 100) rfl (by decide) rfl rfl (fun q_6 => ?_) (fun q_6 => ?_)
  · skip
    refine wp_aload_n (pc' := 101) rfl rfl rfl (by decide) ?_
    refine wp_getR (r' := 3) (ci := 9) (k0 := 2) (pc' := 104) rfl rfl (by decide) (by first | assumption | rfl) (hT.get 2 rfl) ?_
    refine wp_getI (ci := 3) (k0 := 4) (pc' := 107) rfl rfl (by decide) (by first | assumption | rfl) ?_
    refine wp_ret rfl rfl rfl ?_
    refine ⟨congrArg (fun z => some (vI z)) ?_, rfl⟩
    unfold sCntX
    (repeat' split) <;> first | rfl | (exfalso; omega)
  refine wp_swE (6) (pt := 108) rfl (by decide) rfl rfl (fun q_7 => ?_) (fun q_7 => ?_)
  · skip
    refine wp_aload_n (pc' := 109) rfl rfl rfl (by decide) ?_
    refine wp_getR (r' := 3) (ci := 9) (k0 := 2) (pc' := 112) rfl rfl (by decide) (by first | assumption | rfl) (hT.get 2 rfl) ?_
    refine wp_call (pc' := 115) rfl rfl rfl rfl rfl ⟨Nat.le_of_ble_eq_true rfl, Nat.le_of_ble_eq_true rfl, Nat.le_of_ble_eq_true rfl, Nat.le_of_ble_eq_true rfl, Nat.le_of_ble_eq_true rfl⟩ rfl (c_Land_allHearths hT hn (fun j a b => (hp j a b).2)) ?_
    intro v1 w9 hq1
    rw [hq1.1, hq1.2]
    clear hq1 v1 w9
    dsimp only [Option.toList, List.cons_append, List.nil_append, List.append_nil]
    refine wp_ret rfl rfl rfl ?_
    refine ⟨congrArg (fun z => some (vI z)) ?_, rfl⟩
    unfold sCntX
    (repeat' split) <;> first | rfl | (exfalso; omega)
  refine wp_swE (7) (pt := 116) rfl (by decide) rfl rfl (fun q_8 => ?_) (fun q_8 => ?_)
  · skip
    refine wp_aload_n (pc' := 117) rfl rfl rfl (by decide) ?_
    refine wp_getR (r' := 3) (ci := 9) (k0 := 2) (pc' := 120) rfl rfl (by decide) (by first | assumption | rfl) (hT.get 2 rfl) ?_
    refine wp_call (pc' := 123) rfl rfl rfl rfl rfl ⟨Nat.le_of_ble_eq_true rfl, Nat.le_of_ble_eq_true rfl, Nat.le_of_ble_eq_true rfl, Nat.le_of_ble_eq_true rfl, Nat.le_of_ble_eq_true rfl⟩ rfl (c_Land_widows hT hr hn (fun j a b => (hp j a b).1)) ?_
    intro v1 w9 hq1
    rw [hq1.1, hq1.2]
    clear hq1 v1 w9
    dsimp only [Option.toList, List.cons_append, List.nil_append, List.append_nil]
    refine wp_ret rfl rfl rfl ?_
    refine ⟨congrArg (fun z => some (vI z)) ?_, rfl⟩
    unfold sCntX
    (repeat' split) <;> first | rfl | (exfalso; omega)
  refine wp_swE (8) (pt := 124) rfl (by decide) rfl rfl (fun q_9 => ?_) (fun q_9 => ?_)
  · skip
    refine wp_aload_n (pc' := 125) rfl rfl rfl (by decide) ?_
    refine wp_getR (r' := 1) (ci := 9) (k0 := 0) (pc' := 128) rfl rfl (by decide) (by first | assumption | rfl) (hT.get 0 rfl) ?_
    refine wp_call (pc' := 131) rfl rfl rfl rfl rfl ⟨Nat.le_of_ble_eq_true rfl, Nat.le_of_ble_eq_true rfl, Nat.le_of_ble_eq_true rfl, Nat.le_of_ble_eq_true rfl, Nat.le_of_ble_eq_true rfl⟩ rfl (c_VH_present_rows hT) ?_
    intro v1 w9 hq1
    rw [hq1.1, hq1.2]
    clear hq1 v1 w9
    dsimp only [Option.toList, List.cons_append, List.nil_append, List.append_nil]
    refine wp_ret rfl rfl rfl ?_
    refine ⟨congrArg (fun z => some (vI z)) ?_, rfl⟩
    unfold sCntX
    (repeat' split) <;> first | rfl | (exfalso; omega)
  refine wp_swE (9) (pt := 132) rfl (by decide) rfl rfl (fun q_10 => ?_) (fun q_10 => ?_)
  · skip
    refine wp_aload_n (pc' := 133) rfl rfl rfl (by decide) ?_
    refine wp_getR (r' := 2) (ci := 9) (k0 := 1) (pc' := 136) rfl rfl (by decide) (by first | assumption | rfl) (hT.get 1 rfl) ?_
    refine wp_call (pc' := 139) rfl rfl rfl rfl rfl ⟨Nat.le_of_ble_eq_true rfl, Nat.le_of_ble_eq_true rfl, Nat.le_of_ble_eq_true rfl, Nat.le_of_ble_eq_true rfl, Nat.le_of_ble_eq_true rfl⟩ rfl (c_VH_present_texts hT) ?_
    intro v1 w9 hq1
    rw [hq1.1, hq1.2]
    clear hq1 v1 w9
    dsimp only [Option.toList, List.cons_append, List.nil_append, List.append_nil]
    refine wp_ret rfl rfl rfl ?_
    refine ⟨congrArg (fun z => some (vI z)) ?_, rfl⟩
    unfold sCntX
    (repeat' split) <;> first | rfl | (exfalso; omega)
  refine wp_swE (10) (pt := 140) rfl (by decide) rfl rfl (fun q_11 => ?_) (fun q_11 => ?_)
  · skip
    refine wp_aload_n (pc' := 141) rfl rfl rfl (by decide) ?_
    refine wp_call (pc' := 144) rfl rfl rfl rfl rfl ⟨Nat.le_of_ble_eq_true rfl, Nat.le_of_ble_eq_true rfl, Nat.le_of_ble_eq_true rfl, Nat.le_of_ble_eq_true rfl, Nat.le_of_ble_eq_true rfl⟩ rfl (c_VH_keptLands hT) ?_
    intro v1 w9 hq1
    rw [hq1.1, hq1.2]
    clear hq1 v1 w9
    dsimp only [Option.toList, List.cons_append, List.nil_append, List.append_nil]
    refine wp_ret rfl rfl rfl ?_
    refine ⟨congrArg (fun z => some (vI z)) ?_, rfl⟩
    unfold sCntX
    (repeat' split) <;> first | rfl | (exfalso; omega)
  refine wp_swOut (pc' := 145) rfl (by omega) rfl ?_
  refine wp_iconst (a := -1) (pc' := 146) rfl rfl rfl ?_
  refine wp_ret rfl rfl rfl ?_
  refine ⟨congrArg (fun z => some (vI z)) ?_, rfl⟩
  unfold sCntX
  (repeat' split) <;> first | rfl | (exfalso; omega)
set_option maxRecDepth 20000 in
set_option maxHeartbeats 4000000 in
theorem l_cnt1 {w : Hp} {d : Nat} {q s0 : Int} {Q : Option PV → Hp → Prop} (hT : Stc w) (hs0 : 0 ≤ s0 ∧ s0 ≤ 1000) (hn : 0 ≤ w 100 10 ∧ w 100 10 ≤ 6) (hg : ∀ j : Int, 0 ≤ j → j < w 100 10 → 1 ≤ w 108 j ∧ w 108 j ≤ 9) (K : WP SH d 224 67 [some (vR 100), some (vI q), some (vI (s0 + sumI (fC1 w q) (w 100 10))), some (vI (w 100 10))] [] w Q) : ∀ (k : Nat) (i s : Int), 0 ≤ i → i + k = w 100 10 → s = s0 + sumI (fC1 w q) i → WP SH d 224 4 [some (vR 100), some (vI q), some (vI s), some (vI i)] [] w Q := by
  intro k
  induction k with
  | zero =>
    intro i s h0 hik hs
    have hbd := @sumI_bd (fC1 w q) 0 9 i h0 (fun j a b => by have := hg j a (by omega); unfold fC1; (repeat' split) <;> omega)
    refine wp_iload_n (pc' := 5) rfl rfl rfl ?_
    refine wp_aload_n (pc' := 6) rfl rfl rfl (by decide) ?_
    refine wp_getI (ci := 10) (k0 := 10) (pc' := 9) rfl rfl (by decide) (by first | assumption | rfl) ?_
    refine wp_icmp_ge (pc' := 12) (pt := 67) rfl rfl rfl (fun q_1 => ?_) (fun q_1 => ?_)
    · skip
      obtain rfl : i = w 100 10 := by omega
      rw [hs]
      exact K
    · skip
      exfalso; omega
  | succ k ih =>
    intro i s h0 hik hs
    have hbd := @sumI_bd (fC1 w q) 0 9 i h0 (fun j a b => by have := hg j a (by omega); unfold fC1; (repeat' split) <;> omega)
    refine wp_iload_n (pc' := 5) rfl rfl rfl ?_
    refine wp_aload_n (pc' := 6) rfl rfl rfl (by decide) ?_
    refine wp_getI (ci := 10) (k0 := 10) (pc' := 9) rfl rfl (by decide) (by first | assumption | rfl) ?_
    refine wp_icmp_ge (pc' := 12) (pt := 67) rfl rfl rfl (fun q_1 => ?_) (fun q_1 => ?_)
    · skip
      exfalso; omega
    · skip
      have hgi := hg i h0 (by omega)
      refine wp_iload_n (pc' := 13) rfl rfl rfl ?_
      refine wp_iload_n (pc' := 14) rfl rfl rfl ?_
      refine wp_bipush (a := 6) (pc' := 16) rfl rfl rfl ?_
      refine wp_icmp_ne (pc' := 19) (pt := 28) rfl rfl rfl (fun q_2 => ?_) (fun q_2 => ?_)
      · skip
        refine wp_iload_n (pc' := 29) rfl rfl rfl ?_
        refine wp_bipush (a := 7) (pc' := 31) rfl rfl rfl ?_
        refine wp_icmp_ne (pc' := 34) (pt := 58) rfl rfl rfl (fun q_3 => ?_) (fun q_3 => ?_)
        · skip
          refine wp_iconst (a := 0) (pc' := 59) rfl rfl rfl ?_
          refine wp_iadd (pc' := 60) rfl rfl (by first | exact w32_id (by omega) (by omega) | rfl) ?_
          refine wp_istore_n (pc' := 61) rfl rfl (Nat.le_of_ble_eq_true rfl) rfl ?_
          dsimp only [lset, lset2, List.set, List.getElem?_cons_zero, List.getElem?_cons_succ]
          refine wp_iinc (pc' := 64) rfl rfl rfl (inc_id (by omega) (by omega)) rfl ?_
          dsimp only [lset, lset2, List.set, List.getElem?_cons_zero, List.getElem?_cons_succ]
          refine wp_goto (pc' := 4) rfl rfl ?_
          exact ih (i + 1) _ (by omega) (by omega) (by rw [sumI_s _ h0, hs]; unfold fC1; (repeat' split) <;> first | omega | (exfalso; omega))
        · skip
          refine wp_aload_n (pc' := 35) rfl rfl rfl (by decide) ?_
          refine wp_getR (r' := 107) (ci := 10) (k0 := 13) (pc' := 38) rfl rfl (by decide) (by first | assumption | rfl) (hT.get 105 rfl) ?_
          refine wp_iload_n (pc' := 39) rfl rfl rfl ?_
          refine wp_iaload (pc' := 40) rfl rfl (by first | assumption | rfl) (by omega) ?_
          refine wp_iconst (a := 2) (pc' := 41) rfl rfl rfl ?_
          refine wp_icmp_eq (pc' := 44) (pt := 54) rfl rfl rfl (fun q_4 => ?_) (fun q_4 => ?_)
          · skip
            refine wp_iconst (a := 1) (pc' := 55) rfl rfl rfl ?_
            refine wp_goto (pc' := 59) rfl rfl ?_
            refine wp_iadd (pc' := 60) rfl rfl (by first | exact w32_id (by omega) (by omega) | rfl) ?_
            refine wp_istore_n (pc' := 61) rfl rfl (Nat.le_of_ble_eq_true rfl) rfl ?_
            dsimp only [lset, lset2, List.set, List.getElem?_cons_zero, List.getElem?_cons_succ]
            refine wp_iinc (pc' := 64) rfl rfl rfl (inc_id (by omega) (by omega)) rfl ?_
            dsimp only [lset, lset2, List.set, List.getElem?_cons_zero, List.getElem?_cons_succ]
            refine wp_goto (pc' := 4) rfl rfl ?_
            exact ih (i + 1) _ (by omega) (by omega) (by rw [sumI_s _ h0, hs]; unfold fC1; (repeat' split) <;> first | omega | (exfalso; omega))
          · skip
            refine wp_aload_n (pc' := 45) rfl rfl rfl (by decide) ?_
            refine wp_getR (r' := 107) (ci := 10) (k0 := 13) (pc' := 48) rfl rfl (by decide) (by first | assumption | rfl) (hT.get 105 rfl) ?_
            refine wp_iload_n (pc' := 49) rfl rfl rfl ?_
            refine wp_iaload (pc' := 50) rfl rfl (by first | assumption | rfl) (by omega) ?_
            refine wp_iconst (a := 4) (pc' := 51) rfl rfl rfl ?_
            refine wp_icmp_ne (pc' := 54) (pt := 58) rfl rfl rfl (fun q_5 => ?_) (fun q_5 => ?_)
            · skip
              refine wp_iconst (a := 0) (pc' := 59) rfl rfl rfl ?_
              refine wp_iadd (pc' := 60) rfl rfl (by first | exact w32_id (by omega) (by omega) | rfl) ?_
              refine wp_istore_n (pc' := 61) rfl rfl (Nat.le_of_ble_eq_true rfl) rfl ?_
              dsimp only [lset, lset2, List.set, List.getElem?_cons_zero, List.getElem?_cons_succ]
              refine wp_iinc (pc' := 64) rfl rfl rfl (inc_id (by omega) (by omega)) rfl ?_
              dsimp only [lset, lset2, List.set, List.getElem?_cons_zero, List.getElem?_cons_succ]
              refine wp_goto (pc' := 4) rfl rfl ?_
              exact ih (i + 1) _ (by omega) (by omega) (by rw [sumI_s _ h0, hs]; unfold fC1; (repeat' split) <;> first | omega | (exfalso; omega))
            · skip
              refine wp_iconst (a := 1) (pc' := 55) rfl rfl rfl ?_
              refine wp_goto (pc' := 59) rfl rfl ?_
              refine wp_iadd (pc' := 60) rfl rfl (by first | exact w32_id (by omega) (by omega) | rfl) ?_
              refine wp_istore_n (pc' := 61) rfl rfl (Nat.le_of_ble_eq_true rfl) rfl ?_
              dsimp only [lset, lset2, List.set, List.getElem?_cons_zero, List.getElem?_cons_succ]
              refine wp_iinc (pc' := 64) rfl rfl rfl (inc_id (by omega) (by omega)) rfl ?_
              dsimp only [lset, lset2, List.set, List.getElem?_cons_zero, List.getElem?_cons_succ]
              refine wp_goto (pc' := 4) rfl rfl ?_
              exact ih (i + 1) _ (by omega) (by omega) (by rw [sumI_s _ h0, hs]; unfold fC1; (repeat' split) <;> first | omega | (exfalso; omega))
      · skip
        refine wp_aload_n (pc' := 20) rfl rfl rfl (by decide) ?_
        refine wp_getR (r' := 108) (ci := 10) (k0 := 14) (pc' := 23) rfl rfl (by decide) (by first | assumption | rfl) (hT.get 106 rfl) ?_
        refine wp_iload_n (pc' := 24) rfl rfl rfl ?_
        refine wp_iaload (pc' := 25) rfl rfl (by first | assumption | rfl) (by omega) ?_
        refine wp_goto (pc' := 59) rfl rfl ?_
        refine wp_iadd (pc' := 60) rfl rfl (by first | exact w32_id (by omega) (by omega) | rfl) ?_
        refine wp_istore_n (pc' := 61) rfl rfl (Nat.le_of_ble_eq_true rfl) rfl ?_
        dsimp only [lset, lset2, List.set, List.getElem?_cons_zero, List.getElem?_cons_succ]
        refine wp_iinc (pc' := 64) rfl rfl rfl (inc_id (by omega) (by omega)) rfl ?_
        dsimp only [lset, lset2, List.set, List.getElem?_cons_zero, List.getElem?_cons_succ]
        refine wp_goto (pc' := 4) rfl rfl ?_
        exact ih (i + 1) _ (by omega) (by omega) (by rw [sumI_s _ h0, hs]; unfold fC1; (repeat' split) <;> first | omega | (exfalso; omega))
set_option maxRecDepth 20000 in
set_option maxHeartbeats 4000000 in
theorem l_cnt2 {w : Hp} {d : Nat} {q s0 : Int} {Q : Option PV → Hp → Prop} (hT : Stc w) (hs0 : 0 ≤ s0 ∧ s0 ≤ 1000)  (K : WP SH d 224 104 [some (vR 100), some (vI q), some (vI (s0 + sumI (fC2 (w 102) (q = 8)) (6))), some (vI (6))] [] w Q) : ∀ (k : Nat) (i s : Int), 0 ≤ i → i + k = 6 → s = s0 + sumI (fC2 (w 102) (q = 8)) i → WP SH d 224 69 [some (vR 100), some (vI q), some (vI s), some (vI i)] [] w Q := by
  intro k
  induction k with
  | zero =>
    intro i s h0 hik hs
    have hbd := sum01 (n := i) h0 (fC201 (w 102) (q = 8))
    refine wp_iload_n (pc' := 70) rfl rfl rfl ?_
    refine wp_bipush (a := 6) (pc' := 72) rfl rfl rfl ?_
    refine wp_icmp_ge (pc' := 75) (pt := 104) rfl rfl rfl (fun q_1 => ?_) (fun q_1 => ?_)
    · skip
      obtain rfl : i = 6 := by omega
      rw [hs]
      exact K
    · skip
      exfalso; omega
  | succ k ih =>
    intro i s h0 hik hs
    have hbd := sum01 (n := i) h0 (fC201 (w 102) (q = 8))
    refine wp_iload_n (pc' := 70) rfl rfl rfl ?_
    refine wp_bipush (a := 6) (pc' := 72) rfl rfl rfl ?_
    refine wp_icmp_ge (pc' := 75) (pt := 104) rfl rfl rfl (fun q_1 => ?_) (fun q_1 => ?_)
    · skip
      exfalso; omega
    · skip
      refine wp_iload_n (pc' := 76) rfl rfl rfl ?_
      refine wp_iload_n (pc' := 77) rfl rfl rfl ?_
      refine wp_bipush (a := 8) (pc' := 79) rfl rfl rfl ?_
      refine wp_icmp_ne (pc' := 82) (pt := 95) rfl rfl rfl (fun q_2 => ?_) (fun q_2 => ?_)
      · skip
        refine wp_iconst (a := 0) (pc' := 96) rfl rfl rfl ?_
        refine wp_iadd (pc' := 97) rfl rfl (by first | exact w32_id (by omega) (by omega) | rfl) ?_
        refine wp_istore_n (pc' := 98) rfl rfl (Nat.le_of_ble_eq_true rfl) rfl ?_
        dsimp only [lset, lset2, List.set, List.getElem?_cons_zero, List.getElem?_cons_succ]
        refine wp_iinc (pc' := 101) rfl rfl rfl (inc_id (by omega) (by omega)) rfl ?_
        dsimp only [lset, lset2, List.set, List.getElem?_cons_zero, List.getElem?_cons_succ]
        refine wp_goto (pc' := 69) rfl rfl ?_
        exact ih (i + 1) _ (by omega) (by omega) (by rw [sumI_s _ h0, hs]; unfold fC2; (repeat' split) <;> first | omega | (exfalso; omega))
      · skip
        refine wp_aload_n (pc' := 83) rfl rfl rfl (by decide) ?_
        refine wp_getR (r' := 102) (ci := 10) (k0 := 5) (pc' := 86) rfl rfl (by decide) (by first | assumption | rfl) (hT.get 100 rfl) ?_
        refine wp_iload_n (pc' := 87) rfl rfl rfl ?_
        refine wp_iaload (pc' := 88) rfl rfl (by first | assumption | rfl) (by omega) ?_
        refine wp_if_lt (pc' := 91) (pt := 95) rfl rfl rfl (fun q_3 => ?_) (fun q_3 => ?_)
        · skip
          refine wp_iconst (a := 0) (pc' := 96) rfl rfl rfl ?_
          refine wp_iadd (pc' := 97) rfl rfl (by first | exact w32_id (by omega) (by omega) | rfl) ?_
          refine wp_istore_n (pc' := 98) rfl rfl (Nat.le_of_ble_eq_true rfl) rfl ?_
          dsimp only [lset, lset2, List.set, List.getElem?_cons_zero, List.getElem?_cons_succ]
          refine wp_iinc (pc' := 101) rfl rfl rfl (inc_id (by omega) (by omega)) rfl ?_
          dsimp only [lset, lset2, List.set, List.getElem?_cons_zero, List.getElem?_cons_succ]
          refine wp_goto (pc' := 69) rfl rfl ?_
          exact ih (i + 1) _ (by omega) (by omega) (by rw [sumI_s _ h0, hs]; unfold fC2; (repeat' split) <;> first | omega | (exfalso; omega))
        · skip
          refine wp_iconst (a := 1) (pc' := 92) rfl rfl rfl ?_
          refine wp_goto (pc' := 96) rfl rfl ?_
          refine wp_iadd (pc' := 97) rfl rfl (by first | exact w32_id (by omega) (by omega) | rfl) ?_
          refine wp_istore_n (pc' := 98) rfl rfl (Nat.le_of_ble_eq_true rfl) rfl ?_
          dsimp only [lset, lset2, List.set, List.getElem?_cons_zero, List.getElem?_cons_succ]
          refine wp_iinc (pc' := 101) rfl rfl rfl (inc_id (by omega) (by omega)) rfl ?_
          dsimp only [lset, lset2, List.set, List.getElem?_cons_zero, List.getElem?_cons_succ]
          refine wp_goto (pc' := 69) rfl rfl ?_
          exact ih (i + 1) _ (by omega) (by omega) (by rw [sumI_s _ h0, hs]; unfold fC2; (repeat' split) <;> first | omega | (exfalso; omega))
set_option maxRecDepth 20000 in
set_option maxHeartbeats 4000000 in
theorem l_cnt3 {w : Hp} {d : Nat} {q s0 : Int} {Q : Option PV → Hp → Prop} (hT : Stc w) (hs0 : 0 ≤ s0 ∧ s0 ≤ 1000)  (K : WP SH d 224 140 [some (vR 100), some (vI q), some (vI (s0 + sumI (fC2 (w 105) (q = 9)) (4))), some (vI (4))] [] w Q) : ∀ (k : Nat) (i s : Int), 0 ≤ i → i + k = 4 → s = s0 + sumI (fC2 (w 105) (q = 9)) i → WP SH d 224 106 [some (vR 100), some (vI q), some (vI s), some (vI i)] [] w Q := by
  intro k
  induction k with
  | zero =>
    intro i s h0 hik hs
    have hbd := sum01 (n := i) h0 (fC201 (w 105) (q = 9))
    refine wp_iload_n (pc' := 107) rfl rfl rfl ?_
    refine wp_iconst (a := 4) (pc' := 108) rfl rfl rfl ?_
    refine wp_icmp_ge (pc' := 111) (pt := 140) rfl rfl rfl (fun q_1 => ?_) (fun q_1 => ?_)
    · skip
      obtain rfl : i = 4 := by omega
      rw [hs]
      exact K
    · skip
      exfalso; omega
  | succ k ih =>
    intro i s h0 hik hs
    have hbd := sum01 (n := i) h0 (fC201 (w 105) (q = 9))
    refine wp_iload_n (pc' := 107) rfl rfl rfl ?_
    refine wp_iconst (a := 4) (pc' := 108) rfl rfl rfl ?_
    refine wp_icmp_ge (pc' := 111) (pt := 140) rfl rfl rfl (fun q_1 => ?_) (fun q_1 => ?_)
    · skip
      exfalso; omega
    · skip
      refine wp_iload_n (pc' := 112) rfl rfl rfl ?_
      refine wp_iload_n (pc' := 113) rfl rfl rfl ?_
      refine wp_bipush (a := 9) (pc' := 115) rfl rfl rfl ?_
      refine wp_icmp_ne (pc' := 118) (pt := 131) rfl rfl rfl (fun q_2 => ?_) (fun q_2 => ?_)
      · skip
        refine wp_iconst (a := 0) (pc' := 132) rfl rfl rfl ?_
        refine wp_iadd (pc' := 133) rfl rfl (by first | exact w32_id (by omega) (by omega) | rfl) ?_
        refine wp_istore_n (pc' := 134) rfl rfl (Nat.le_of_ble_eq_true rfl) rfl ?_
        dsimp only [lset, lset2, List.set, List.getElem?_cons_zero, List.getElem?_cons_succ]
        refine wp_iinc (pc' := 137) rfl rfl rfl (inc_id (by omega) (by omega)) rfl ?_
        dsimp only [lset, lset2, List.set, List.getElem?_cons_zero, List.getElem?_cons_succ]
        refine wp_goto (pc' := 106) rfl rfl ?_
        exact ih (i + 1) _ (by omega) (by omega) (by rw [sumI_s _ h0, hs]; unfold fC2; (repeat' split) <;> first | omega | (exfalso; omega))
      · skip
        refine wp_aload_n (pc' := 119) rfl rfl rfl (by decide) ?_
        refine wp_getR (r' := 105) (ci := 10) (k0 := 8) (pc' := 122) rfl rfl (by decide) (by first | assumption | rfl) (hT.get 103 rfl) ?_
        refine wp_iload_n (pc' := 123) rfl rfl rfl ?_
        refine wp_iaload (pc' := 124) rfl rfl (by first | assumption | rfl) (by omega) ?_
        refine wp_if_lt (pc' := 127) (pt := 131) rfl rfl rfl (fun q_3 => ?_) (fun q_3 => ?_)
        · skip
          refine wp_iconst (a := 0) (pc' := 132) rfl rfl rfl ?_
          refine wp_iadd (pc' := 133) rfl rfl (by first | exact w32_id (by omega) (by omega) | rfl) ?_
          refine wp_istore_n (pc' := 134) rfl rfl (Nat.le_of_ble_eq_true rfl) rfl ?_
          dsimp only [lset, lset2, List.set, List.getElem?_cons_zero, List.getElem?_cons_succ]
          refine wp_iinc (pc' := 137) rfl rfl rfl (inc_id (by omega) (by omega)) rfl ?_
          dsimp only [lset, lset2, List.set, List.getElem?_cons_zero, List.getElem?_cons_succ]
          refine wp_goto (pc' := 106) rfl rfl ?_
          exact ih (i + 1) _ (by omega) (by omega) (by rw [sumI_s _ h0, hs]; unfold fC2; (repeat' split) <;> first | omega | (exfalso; omega))
        · skip
          refine wp_iconst (a := 1) (pc' := 128) rfl rfl rfl ?_
          refine wp_goto (pc' := 132) rfl rfl ?_
          refine wp_iadd (pc' := 133) rfl rfl (by first | exact w32_id (by omega) (by omega) | rfl) ?_
          refine wp_istore_n (pc' := 134) rfl rfl (Nat.le_of_ble_eq_true rfl) rfl ?_
          dsimp only [lset, lset2, List.set, List.getElem?_cons_zero, List.getElem?_cons_succ]
          refine wp_iinc (pc' := 137) rfl rfl rfl (inc_id (by omega) (by omega)) rfl ?_
          dsimp only [lset, lset2, List.set, List.getElem?_cons_zero, List.getElem?_cons_succ]
          refine wp_goto (pc' := 106) rfl rfl ?_
          exact ih (i + 1) _ (by omega) (by omega) (by rw [sumI_s _ h0, hs]; unfold fC2; (repeat' split) <;> first | omega | (exfalso; omega))
set_option maxRecDepth 20000 in
set_option maxHeartbeats 4000000 in
theorem l_cnt4 {w : Hp} {d : Nat} {q s0 : Int} {Q : Option PV → Hp → Prop} (hT : Stc w) (hs0 : 0 ≤ s0 ∧ s0 ≤ 1000)  (K : WP SH d 224 176 [some (vR 100), some (vI q), some (vI (s0 + sumI (fC4 (w 115) (q = 10)) (3))), some (vI (3))] [] w Q) : ∀ (k : Nat) (i s : Int), 0 ≤ i → i + k = 3 → s = s0 + sumI (fC4 (w 115) (q = 10)) i → WP SH d 224 142 [some (vR 100), some (vI q), some (vI s), some (vI i)] [] w Q := by
  intro k
  induction k with
  | zero =>
    intro i s h0 hik hs
    have hbd := sum01 (n := i) h0 (fC401 (w 115) (q = 10))
    refine wp_iload_n (pc' := 143) rfl rfl rfl ?_
    refine wp_iconst (a := 3) (pc' := 144) rfl rfl rfl ?_
    refine wp_icmp_ge (pc' := 147) (pt := 176) rfl rfl rfl (fun q_1 => ?_) (fun q_1 => ?_)
    · skip
      obtain rfl : i = 3 := by omega
      rw [hs]
      exact K
    · skip
      exfalso; omega
  | succ k ih =>
    intro i s h0 hik hs
    have hbd := sum01 (n := i) h0 (fC401 (w 115) (q = 10))
    refine wp_iload_n (pc' := 143) rfl rfl rfl ?_
    refine wp_iconst (a := 3) (pc' := 144) rfl rfl rfl ?_
    refine wp_icmp_ge (pc' := 147) (pt := 176) rfl rfl rfl (fun q_1 => ?_) (fun q_1 => ?_)
    · skip
      exfalso; omega
    · skip
      refine wp_iload_n (pc' := 148) rfl rfl rfl ?_
      refine wp_iload_n (pc' := 149) rfl rfl rfl ?_
      refine wp_bipush (a := 10) (pc' := 151) rfl rfl rfl ?_
      refine wp_icmp_ne (pc' := 154) (pt := 167) rfl rfl rfl (fun q_2 => ?_) (fun q_2 => ?_)
      · skip
        refine wp_iconst (a := 0) (pc' := 168) rfl rfl rfl ?_
        refine wp_iadd (pc' := 169) rfl rfl (by first | exact w32_id (by omega) (by omega) | rfl) ?_
        refine wp_istore_n (pc' := 170) rfl rfl (Nat.le_of_ble_eq_true rfl) rfl ?_
        dsimp only [lset, lset2, List.set, List.getElem?_cons_zero, List.getElem?_cons_succ]
        refine wp_iinc (pc' := 173) rfl rfl rfl (inc_id (by omega) (by omega)) rfl ?_
        dsimp only [lset, lset2, List.set, List.getElem?_cons_zero, List.getElem?_cons_succ]
        refine wp_goto (pc' := 142) rfl rfl ?_
        exact ih (i + 1) _ (by omega) (by omega) (by rw [sumI_s _ h0, hs]; unfold fC4; (repeat' split) <;> first | omega | (exfalso; omega))
      · skip
        refine wp_aload_n (pc' := 155) rfl rfl rfl (by decide) ?_
        refine wp_getR (r' := 115) (ci := 10) (k0 := 25) (pc' := 158) rfl rfl (by decide) (by first | assumption | rfl) (hT.get 113 rfl) ?_
        refine wp_iload_n (pc' := 159) rfl rfl rfl ?_
        refine wp_baload (pc' := 160) rfl rfl (by first | assumption | rfl) rfl (by omega) ?_
        refine wp_if_eq (pc' := 163) (pt := 167) rfl rfl rfl (fun q_3 => ?_) (fun q_3 => ?_)
        · skip
          refine wp_iconst (a := 0) (pc' := 168) rfl rfl rfl ?_
          refine wp_iadd (pc' := 169) rfl rfl (by first | exact w32_id (by omega) (by omega) | rfl) ?_
          refine wp_istore_n (pc' := 170) rfl rfl (Nat.le_of_ble_eq_true rfl) rfl ?_
          dsimp only [lset, lset2, List.set, List.getElem?_cons_zero, List.getElem?_cons_succ]
          refine wp_iinc (pc' := 173) rfl rfl rfl (inc_id (by omega) (by omega)) rfl ?_
          dsimp only [lset, lset2, List.set, List.getElem?_cons_zero, List.getElem?_cons_succ]
          refine wp_goto (pc' := 142) rfl rfl ?_
          exact ih (i + 1) _ (by omega) (by omega) (by rw [sumI_s _ h0, hs]; unfold fC4; (repeat' split) <;> first | omega | (exfalso; omega))
        · skip
          refine wp_iconst (a := 1) (pc' := 164) rfl rfl rfl ?_
          refine wp_goto (pc' := 168) rfl rfl ?_
          refine wp_iadd (pc' := 169) rfl rfl (by first | exact w32_id (by omega) (by omega) | rfl) ?_
          refine wp_istore_n (pc' := 170) rfl rfl (Nat.le_of_ble_eq_true rfl) rfl ?_
          dsimp only [lset, lset2, List.set, List.getElem?_cons_zero, List.getElem?_cons_succ]
          refine wp_iinc (pc' := 173) rfl rfl rfl (inc_id (by omega) (by omega)) rfl ?_
          dsimp only [lset, lset2, List.set, List.getElem?_cons_zero, List.getElem?_cons_succ]
          refine wp_goto (pc' := 142) rfl rfl ?_
          exact ih (i + 1) _ (by omega) (by omega) (by rw [sumI_s _ h0, hs]; unfold fC4; (repeat' split) <;> first | omega | (exfalso; omega))
set_option maxRecDepth 20000 in
set_option maxHeartbeats 4000000 in
theorem c_Mod_counted {w : Hp} {d : Nat} {q : Int} (hT : Stc w) (hn25 : 0 ≤ w 100 11 * w 100 12 ∧ w 100 11 * w 100 12 ≤ 25) (hn : 0 ≤ w 100 10 ∧ w 100 10 ≤ 6) (hg : ∀ j : Int, 0 ≤ j → j < w 100 10 → 1 ≤ w 108 j ∧ w 108 j ≤ 9) : WP SH (d + 0) 224 0 [some (vR 100), some (vI q), none, none] [] w (fun v w' => v = some (vI (sCntM w q)) ∧ w' = w) := by
  refine wp_iconst (a := 0) (pc' := 1) rfl rfl rfl ?_
  refine wp_istore_n (pc' := 2) rfl rfl (Nat.le_of_ble_eq_true rfl) rfl ?_
  dsimp only [lset, lset2, List.set, List.getElem?_cons_zero, List.getElem?_cons_succ]
  refine wp_iconst (a := 0) (pc' := 3) rfl rfl rfl ?_
  refine wp_istore_n (pc' := 4) rfl rfl (Nat.le_of_ble_eq_true rfl) rfl ?_
  dsimp only [lset, lset2, List.set, List.getElem?_cons_zero, List.getElem?_cons_succ]
  have hb1 := @sumI_bd (fC1 w q) 0 9 (w 100 10) hn.1 (fun j a b => by have := hg j a b; unfold fC1; (repeat' split) <;> omega)
  refine l_cnt1 (s0 := 0) hT (by decide) hn hg ?_ (w 100 10).toNat 0 _ (by decide) (by omega) rfl
  refine wp_iconst (a := 0) (pc' := 68) rfl rfl rfl ?_
  refine wp_istore_n (pc' := 69) rfl rfl (Nat.le_of_ble_eq_true rfl) rfl ?_
  dsimp only [lset, lset2, List.set, List.getElem?_cons_zero, List.getElem?_cons_succ]
  have hb2 := sum01 (n := 6) (by decide) (fC201 (w 102) (q = 8))
  refine l_cnt2 (s0 := (0 + sumI (fC1 w q) (w 100 10))) hT (by omega) ?_ 6 0 _ (by decide) (by decide) (by rw [sumI_0, Int.add_zero])
  refine wp_iconst (a := 0) (pc' := 105) rfl rfl rfl ?_
  refine wp_istore_n (pc' := 106) rfl rfl (Nat.le_of_ble_eq_true rfl) rfl ?_
  dsimp only [lset, lset2, List.set, List.getElem?_cons_zero, List.getElem?_cons_succ]
  have hb3 := sum01 (n := 4) (by decide) (fC201 (w 105) (q = 9))
  refine l_cnt3 (s0 := ((0 + sumI (fC1 w q) (w 100 10)) + sumI (fC2 (w 102) (q = 8)) 6)) hT (by omega) ?_ 4 0 _ (by decide) (by decide) (by rw [sumI_0, Int.add_zero])
  refine wp_iconst (a := 0) (pc' := 141) rfl rfl rfl ?_
  refine wp_istore_n (pc' := 142) rfl rfl (Nat.le_of_ble_eq_true rfl) rfl ?_
  dsimp only [lset, lset2, List.set, List.getElem?_cons_zero, List.getElem?_cons_succ]
  have hb4 := sum01 (n := 3) (by decide) (fC401 (w 115) (q = 10))
  refine l_cnt4 (s0 := (((0 + sumI (fC1 w q) (w 100 10)) + sumI (fC2 (w 102) (q = 8)) 6) + sumI (fC2 (w 105) (q = 9)) 4)) hT (by omega) ?_ 3 0 _ (by decide) (by decide) (by rw [sumI_0, Int.add_zero])
  refine wp_iload_n (pc' := 177) rfl rfl rfl ?_
  refine wp_swE (0) (pt := 216) rfl (by decide) rfl rfl (fun q_81 => ?_) (fun q_81 => ?_)
  · skip
    refine wp_aload_n (pc' := 217) rfl rfl rfl (by decide) ?_
    refine wp_getI (ci := 10) (k0 := 10) (pc' := 220) rfl rfl (by decide) (by first | assumption | rfl) ?_
    refine wp_ret rfl rfl rfl ?_
    refine ⟨congrArg (fun z => some (vI z)) ?_, rfl⟩
    unfold sCntM
    (repeat' split) <;> first | rfl | (exfalso; omega) | (unfold sCntS; omega)
  refine wp_swE (1) (pt := 221) rfl (by decide) rfl rfl (fun q_82 => ?_) (fun q_82 => ?_)
  · skip
    refine wp_aload_n (pc' := 222) rfl rfl rfl (by decide) ?_
    refine wp_getI (ci := 10) (k0 := 11) (pc' := 225) rfl rfl (by decide) (by first | assumption | rfl) ?_
    refine wp_aload_n (pc' := 226) rfl rfl rfl (by decide) ?_
    refine wp_getI (ci := 10) (k0 := 12) (pc' := 229) rfl rfl (by decide) (by first | assumption | rfl) ?_
    refine wp_imul (pc' := 230) rfl rfl (by first | exact w32_id (by omega) (by omega) | rfl) ?_
    refine wp_ret rfl rfl rfl ?_
    refine ⟨congrArg (fun z => some (vI z)) ?_, rfl⟩
    unfold sCntM
    (repeat' split) <;> first | rfl | (exfalso; omega) | (unfold sCntS; omega)
  refine wp_swE (2) (pt := 231) rfl (by decide) rfl rfl (fun q_83 => ?_) (fun q_83 => ?_)
  · skip
    refine wp_aload_n (pc' := 232) rfl rfl rfl (by decide) ?_
    refine wp_getR (r' := 109) (ci := 10) (k0 := 15) (pc' := 235) rfl rfl (by decide) (by first | assumption | rfl) (hT.get 107 rfl) ?_
    refine wp_iconst (a := 0) (pc' := 236) rfl rfl rfl ?_
    refine wp_iaload (pc' := 237) rfl rfl (by first | assumption | rfl) (by omega) ?_
    refine wp_ret rfl rfl rfl ?_
    refine ⟨congrArg (fun z => some (vI z)) ?_, rfl⟩
    unfold sCntM
    (repeat' split) <;> first | rfl | (exfalso; omega) | (unfold sCntS; omega)
  refine wp_swE (3) (pt := 238) rfl (by decide) rfl rfl (fun q_84 => ?_) (fun q_84 => ?_)
  · skip
    refine wp_aload_n (pc' := 239) rfl rfl rfl (by decide) ?_
    refine wp_getI (ci := 10) (k0 := 23) (pc' := 242) rfl rfl (by decide) (by first | assumption | rfl) ?_
    refine wp_ret rfl rfl rfl ?_
    refine ⟨congrArg (fun z => some (vI z)) ?_, rfl⟩
    unfold sCntM
    (repeat' split) <;> first | rfl | (exfalso; omega) | (unfold sCntS; omega)
  refine wp_swE (4) (pt := 243) rfl (by decide) rfl rfl (fun q_85 => ?_) (fun q_85 => ?_)
  · skip
    refine wp_aload_n (pc' := 244) rfl rfl rfl (by decide) ?_
    refine wp_getR (r' := 109) (ci := 10) (k0 := 15) (pc' := 247) rfl rfl (by decide) (by first | assumption | rfl) (hT.get 107 rfl) ?_
    refine wp_iconst (a := 2) (pc' := 248) rfl rfl rfl ?_
    refine wp_iaload (pc' := 249) rfl rfl (by first | assumption | rfl) (by omega) ?_
    refine wp_ret rfl rfl rfl ?_
    refine ⟨congrArg (fun z => some (vI z)) ?_, rfl⟩
    unfold sCntM
    (repeat' split) <;> first | rfl | (exfalso; omega) | (unfold sCntS; omega)
  refine wp_swE (5) (pt := 250) rfl (by decide) rfl rfl (fun q_86 => ?_) (fun q_86 => ?_)
  · skip
    refine wp_aload_n (pc' := 251) rfl rfl rfl (by decide) ?_
    refine wp_getR (r' := 109) (ci := 10) (k0 := 15) (pc' := 254) rfl rfl (by decide) (by first | assumption | rfl) (hT.get 107 rfl) ?_
    refine wp_iconst (a := 1) (pc' := 255) rfl rfl rfl ?_
    refine wp_iaload (pc' := 256) rfl rfl (by first | assumption | rfl) (by omega) ?_
    refine wp_ret rfl rfl rfl ?_
    refine ⟨congrArg (fun z => some (vI z)) ?_, rfl⟩
    unfold sCntM
    (repeat' split) <;> first | rfl | (exfalso; omega) | (unfold sCntS; omega)
  refine wp_swOut (pc' := 257) rfl (by omega) rfl ?_
  refine wp_iload_n (pc' := 258) rfl rfl rfl ?_
  refine wp_ret rfl rfl rfl ?_
  refine ⟨congrArg (fun z => some (vI z)) ?_, rfl⟩
  unfold sCntM
  (repeat' split) <;> first | rfl | (exfalso; omega) | (unfold sCntS; omega)
set_option maxRecDepth 20000 in
set_option maxHeartbeats 4000000 in
theorem p_count {w : Hp} {d : Nat} {q : Int} (hI : Inv w) : WP SH (d + 9) 119 0 [some (vR 0), some (vI q)] [] w (fun v0 w1 => ∃ a, v0 = some (vI a) ∧ w1 (-2) = w (-2) ∧ WP SH (d + 9) 225 0 [some (vR 100), some (vI q)] [] w1 (fun v2 w2 => v2 = some (vI a) ∧ w2 (-2) = w1 (-2) ∧ Inv w2)) := by
  obtain ⟨hT, hRO, hIF, hITo, hIR, hIT, hIL, hIK⟩ := id hI
  obtain ⟨hn25, b11, b12, b10, hn6, hem, m0, m1, m2, m23, hyr, hdd, hpre⟩ := hI.base
  have hmm : w 100 11 * w 100 12 = w 3 0 * w 3 1 := by rw [b11, b12]
  refine (c_VH_count hT hRO hn25 hn6 (fun j a b => ⟨((hpre (by omega)).1.2.2 j a b).1, ((hpre (by omega)).1.2.2 j a b).2.2⟩)).mono (fun v w1 hq => ?_)
  rw [hq.2]
  refine ⟨_, hq.1, rfl, ?_⟩
  refine wp_iload_n (pc' := 1) rfl rfl rfl ?_
  refine wp_iconst (a := 0) (pc' := 2) rfl rfl rfl ?_
  refine wp_bipush (a := 10) (pc' := 4) rfl rfl rfl ?_
  refine wp_call (pc' := 7) rfl rfl rfl rfl rfl ⟨Nat.le_of_ble_eq_true rfl, Nat.le_of_ble_eq_true rfl, Nat.le_of_ble_eq_true rfl, Nat.le_of_ble_eq_true rfl, Nat.le_of_ble_eq_true rfl⟩ rfl (c_Mod_in) ?_
  rintro v1 w9 ⟨hw9, ⟨hv1, hin⟩ | ⟨hv1, hin⟩⟩
  · skip
    rw [hv1, hw9]
    clear hv1 hw9 v1 w9
    dsimp only [Option.toList, List.cons_append, List.nil_append, List.append_nil]
    refine wp_if_eq (pc' := 10) (pt := 18) rfl rfl rfl (fun q_1 => absurd q_1 (by decide)) (fun q_1 => ?_)
    refine wp_aload_n (pc' := 11) rfl rfl rfl (by decide) ?_
    refine wp_iload_n (pc' := 12) rfl rfl rfl ?_
    refine wp_call (pc' := 15) rfl rfl rfl rfl rfl ⟨Nat.le_of_ble_eq_true rfl, Nat.le_of_ble_eq_true rfl, Nat.le_of_ble_eq_true rfl, Nat.le_of_ble_eq_true rfl, Nat.le_of_ble_eq_true rfl⟩ rfl (c_Mod_counted hT (by omega) (by omega) (fun j a b => ((hpre (by omega)).2.1.2.2 j a b).2.2)) ?_
    intro v1 w9 hq1
    rw [hq1.1, hq1.2]
    clear hq1 v1 w9
    dsimp only [Option.toList, List.cons_append, List.nil_append, List.append_nil]
    refine wp_goto (pc' := 19) rfl rfl ?_
    refine wp_ret rfl rfl rfl ?_
    first
    | exact ⟨by rw [cnt_eq hI (by omega) (by omega)], rfl, hI⟩
    | (refine ⟨congrArg (fun z => some (vI z)) ?_, rfl, hI⟩
       unfold sCntX
       (repeat' split) <;> first | rfl | (exfalso; omega))
  · skip
    rw [hv1, hw9]
    clear hv1 hw9 v1 w9
    dsimp only [Option.toList, List.cons_append, List.nil_append, List.append_nil]
    refine wp_if_eq (pc' := 10) (pt := 18) rfl rfl rfl (fun q_2 => ?_) (fun q_2 => absurd (by decide) q_2)
    refine wp_iconst (a := -1) (pc' := 19) rfl rfl rfl ?_
    refine wp_ret rfl rfl rfl ?_
    first
    | exact ⟨by rw [cnt_eq hI (by omega) (by omega)], rfl, hI⟩
    | (refine ⟨congrArg (fun z => some (vI z)) ?_, rfl, hI⟩
       unfold sCntX
       (repeat' split) <;> first | rfl | (exfalso; omega))
