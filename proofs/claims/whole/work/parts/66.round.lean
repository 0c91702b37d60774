/-! round -/
def cntN (a : Int → Int) : Nat → Nat
  | 0 => 0
  | n + 1 => cntN a n + if a n = -1 then 1 else 0
def updA (a : Int → Int) (s x : Int) : Int → Int := fun j => if j = s then x else a j
theorem cnt_upd {a : Int → Int} {s x : Int} (hs : 0 ≤ s) (ha : a s = -1) (hx : x ≠ -1) : ∀ n : Nat, cntN (updA a s x) n + (if s < n then 1 else 0) = cntN a n := by
  intro n
  induction n with
  | zero => rw [if_neg (by omega)]; rfl
  | succ n ih =>
    unfold cntN
    by_cases h1 : s < n
    · rw [if_pos h1] at ih
      rw [if_pos (show s < ((n + 1 : Nat) : Int) by omega), show updA a s x (n : Int) = a n from if_neg (by omega)]
      omega
    · rw [if_neg h1] at ih
      by_cases h2 : s = n
      · rw [if_pos (show s < ((n + 1 : Nat) : Int) by omega), show updA a s x (n : Int) = x from if_pos h2.symm, if_neg hx, ← h2, if_pos ha]
        omega
      · rw [if_neg (show ¬ s < ((n + 1 : Nat) : Int) by omega), show updA a s x (n : Int) = a n from if_neg (by omega)]
        omega
theorem cnt_zero {a : Int → Int} : ∀ {n : Nat}, cntN a n = 0 → ∀ j : Int, 0 ≤ j → j < n → a j ≠ -1 := by
  intro n
  induction n with
  | zero => intro _ j a b; exact absurd b (by omega)
  | succ n ih =>
    intro h j j0 j1
    unfold cntN at h
    by_cases hj : j = n
    · intro hz
      rw [← hj, if_pos hz] at h
      omega
    · exact ih (by omega) j j0 (by omega)
theorem cnt_all : ∀ n : Nat, cntN (fun _ => -1) n = n := by
  intro n
  induction n with
  | zero => rfl
  | succ n ih => unfold cntN; rw [ih, if_pos rfl]
/-- from year m on, seen a: behind how many years, how long once more -/
def rnd (S : Nat → Int) : Nat → Nat → (Int → Int) → Int × Int
  | 0, m, a => ((m : Int), (m : Int) - a (S m))
  | k + 1, m, a => if a (S m) ≠ -1 then ((m : Int), (m : Int) - a (S m)) else rnd S k (m + 1) (updA a (S m) m)
theorem rnd_congr {S S' : Nat → Int} (h : ∀ m, S m = S' m) : ∀ (k m : Nat) (a : Int → Int), rnd S k m a = rnd S' k m a := by
  obtain rfl : S = S' := funext h
  intro k m a
  rfl
def stI (c l n : Int) (K H G : Int → Int) (p : Int × Int) (m : Nat) : Int := 5 * (yN c l n K H G p m).1 + (yN c l n K H G p m).2
set_option maxRecDepth 20000 in
set_option maxHeartbeats 4000000 in
theorem l_unseen {w : Hp} {d : Nat} {Q : Option PV → Hp → Prop} (hT0 : Stc w) (K : ∀ w1 : Hp, Same w w1 [27] → (∀ j : Int, 0 ≤ j → j < 125 → w1 27 j = -1) → WP SH d 78 21 [some (vR 26), some (vR 3), some (vR 23), some (vI 125), none] [] w1 Q) : ∀ (k : Nat) (y : Int) (w1 : Hp), 0 ≤ y → y + k = 125 → Same w w1 [27] → (∀ j : Int, 0 ≤ j → j < y → w1 27 j = -1) → WP SH d 78 2 [some (vR 26), some (vR 3), some (vR 23), some (vI y), none] [] w1 Q := by
  intro k
  induction k with
  | zero =>
    intro y w1 h0 hyk hS hz
    have hT := hT0.same hS (by decide)
    refine wp_iload_n (pc' := 3) rfl rfl rfl ?_
    refine wp_bipush (a := 125) (pc' := 5) rfl rfl rfl ?_
    refine wp_icmp_ge (pc' := 8) (pt := 21) rfl rfl rfl (fun q_1 => ?_) (fun q_1 => ?_)
    · skip
      obtain rfl : y = 125 := by omega
      exact K w1 hS hz
    · skip
      exfalso; omega
  | succ k ih =>
    intro y w1 h0 hyk hS hz
    have hT := hT0.same hS (by decide)
    refine wp_iload_n (pc' := 3) rfl rfl rfl ?_
    refine wp_bipush (a := 125) (pc' := 5) rfl rfl rfl ?_
    refine wp_icmp_ge (pc' := 8) (pt := 21) rfl rfl rfl (fun q_1 => ?_) (fun q_1 => ?_)
    · skip
      exfalso; omega
    · skip
      refine wp_aload_n (pc' := 9) rfl rfl rfl (by decide) ?_
      refine wp_getR (r' := 27) (ci := 8) (k0 := 3) (pc' := 12) rfl rfl (by decide) (by first | assumption | rfl) (hT.get 44 rfl) ?_
      refine wp_iload_n (pc' := 13) rfl rfl rfl ?_
      refine wp_iconst (a := -1) (pc' := 14) rfl rfl rfl ?_
      refine wp_iastore (pc' := 15) rfl rfl (by first | assumption | rfl) (by omega) ?_
      refine wp_iinc (pc' := 18) rfl rfl rfl (inc_id (by omega) (by omega)) rfl ?_
      dsimp only [lset, lset2, List.set, List.getElem?_cons_zero, List.getElem?_cons_succ]
      refine wp_goto (pc' := 2) rfl rfl ?_
      refine ih (y + 1) _ (by omega) (by omega) (hS.put (by decide)) (fun j j0 j1 => ?_)
      by_cases hj : j = y
      · rw [hj, up_eq]
      · rw [up_at hj]
        exact hz j j0 (by omega)
set_option maxRecDepth 20000 in
set_option maxHeartbeats 4000000 in
theorem l_Munseen {w : Hp} {d : Nat} {Q : Option PV → Hp → Prop} (hT0 : Stc w) (K : ∀ w1 : Hp, Same w w1 [119] → (∀ j : Int, 0 ≤ j → j < 125 → w1 119 j = -1) → WP SH d 204 31 [some (vR 100), some (vI 125)] [] w1 Q) : ∀ (k : Nat) (y : Int) (w1 : Hp), 0 ≤ y → y + k = 125 → Same w w1 [119] → (∀ j : Int, 0 ≤ j → j < y → w1 119 j = -1) → WP SH d 204 12 [some (vR 100), some (vI y)] [] w1 Q := by
  intro k
  induction k with
  | zero =>
    intro y w1 h0 hyk hS hz
    have hT := hT0.same hS (by decide)
    refine wp_iload_n (pc' := 13) rfl rfl rfl ?_
    refine wp_bipush (a := 125) (pc' := 15) rfl rfl rfl ?_
    refine wp_icmp_ge (pc' := 18) (pt := 31) rfl rfl rfl (fun q_1 => ?_) (fun q_1 => ?_)
    · skip
      obtain rfl : y = 125 := by omega
      exact K w1 hS hz
    · skip
      exfalso; omega
  | succ k ih =>
    intro y w1 h0 hyk hS hz
    have hT := hT0.same hS (by decide)
    refine wp_iload_n (pc' := 13) rfl rfl rfl ?_
    refine wp_bipush (a := 125) (pc' := 15) rfl rfl rfl ?_
    refine wp_icmp_ge (pc' := 18) (pt := 31) rfl rfl rfl (fun q_1 => ?_) (fun q_1 => ?_)
    · skip
      exfalso; omega
    · skip
      refine wp_aload_n (pc' := 19) rfl rfl rfl (by decide) ?_
      refine wp_getR (r' := 119) (ci := 10) (k0 := 29) (pc' := 22) rfl rfl (by decide) (by first | assumption | rfl) (hT.get 117 rfl) ?_
      refine wp_iload_n (pc' := 23) rfl rfl rfl ?_
      refine wp_iconst (a := -1) (pc' := 24) rfl rfl rfl ?_
      refine wp_iastore (pc' := 25) rfl rfl (by first | assumption | rfl) (by omega) ?_
      refine wp_iinc (pc' := 28) rfl rfl rfl (inc_id (by omega) (by omega)) rfl ?_
      dsimp only [lset, lset2, List.set, List.getElem?_cons_zero, List.getElem?_cons_succ]
      refine wp_goto (pc' := 12) rfl rfl ?_
      refine ih (y + 1) _ (by omega) (by omega) (hS.put (by decide)) (fun j j0 j1 => ?_)
      by_cases hj : j = y
      · rw [hj, up_eq]
      · rw [up_at hj]
        exact hz j j0 (by omega)
set_option maxRecDepth 20000 in
set_option maxHeartbeats 4000000 in
theorem l_round {w : Hp} {d : Nat} {p0 : Int × Int} (hT0 : Stc w) (hr0 : ROw w) (hl : LnOK w) (hc0 : Cel (w 3 0) (w 3 1) p0.1) (hb0 : 0 ≤ p0.2 ∧ p0.2 ≤ 4) : ∀ (k m : Nat) (a : Int → Int) (y : Int) (w1 : Hp) (x4 : Option PV), y = m → m + k = 125 → cntN a 125 = k → SameF w w1 [24, 25, 27] [(26, 0), (26, 1), (26, 2)] → w1 26 0 = (yN (w 3 0) (w 3 1) (w 3 2) (w 4) (w 5) (w 6) p0 m).1 → w1 26 2 = (yN (w 3 0) (w 3 1) (w 3 2) (w 4) (w 5) (w 6) p0 m).2 → (∀ j : Int, 0 ≤ j → j < 125 → w1 27 j = a j ∧ -1 ≤ a j ∧ a j ≤ 125) → WP SH (d + 6) 78 28 [some (vR 26), some (vR 3), some (vR 23), some (vI y), x4] [] w1 (fun v w' => v = some (vI (rnd (stI (w 3 0) (w 3 1) (w 3 2) (w 4) (w 5) (w 6) p0) k m a).1) ∧ SameF w w' [24, 25, 27] [(26, 0), (26, 1), (26, 2)] ∧ w' 26 1 = (rnd (stI (w 3 0) (w 3 1) (w 3 2) (w 4) (w 5) (w 6) p0) k m a).2) := by
  intro k
  induction k with
  | zero =>
    intro m a y w1 x4 hy hmk hk hS hy0 hy2 ha
    have hyo := @yN_ok _ _ (w 3 2) (w 4) (w 5) (w 6) p0 hl.1 hc0 hb0 (fun j a b => (hl.2.2 j a b).2.2) m
    have hcd := hyo.1.dm hl.1
    have hT := hT0.sameF hS (by decide)
    have e3 : w1 3 = w 3 := hS.cell 3 (by decide) (by decide)
    have e4 : w1 4 = w 4 := hS.cell 4 (by decide) (by decide)
    have e5 : w1 5 = w 5 := hS.cell 5 (by decide) (by decide)
    have e6 : w1 6 = w 6 := hS.cell 6 (by decide) (by decide)
    have hr1 : ROw w1 := by
      unfold ROw
      rw [hS.cell (-3) (by decide) (by decide), hS.cell (-4) (by decide) (by decide), hS.cell (-5) (by decide) (by decide)]
      exact hr0
    have hl1 : LnOK w1 := by
      unfold LnOK
      rw [e3, e4, e5, e6]
      exact hl
    have hx1 : Cel (w1 3 0) (w1 3 1) (w1 26 0) := by rw [e3, hy0]; exact hyo.1
    have hst : (stI (w 3 0) (w 3 1) (w 3 2) (w 4) (w 5) (w 6) p0) m = 5 * w1 26 0 + w1 26 2 := by unfold stI; rw [hy0, hy2]
    have hsi : 0 ≤ (stI (w 3 0) (w 3 1) (w 3 2) (w 4) (w 5) (w 6) p0) m ∧ (stI (w 3 0) (w 3 1) (w 3 2) (w 4) (w 5) (w 6) p0) m < 125 := by rw [hst]; omega
    have hsa := ha ((stI (w 3 0) (w 3 1) (w 3 2) (w 4) (w 5) (w 6) p0) m) hsi.1 hsi.2
    have hse : w1 26 0 * 5 + w1 26 2 = (stI (w 3 0) (w 3 1) (w 3 2) (w 4) (w 5) (w 6) p0) m := by rw [hst]; omega
    have hb1 : 0 ≤ w1 26 0 ∧ w1 26 0 < 25 ∧ 0 ≤ w1 26 2 ∧ w1 26 2 ≤ 4 := by omega
    refine wp_iload_n (pc' := 29) rfl rfl rfl ?_
    refine wp_bipush (a := 125) (pc' := 31) rfl rfl rfl ?_
    refine wp_icmp_gt (pc' := 34) (pt := 93) rfl rfl rfl (fun q_1 => ?_) (fun q_1 => ?_)
    · skip
      exfalso; omega
    · skip
      refine wp_aload_n (pc' := 35) rfl rfl rfl (by decide) ?_
      refine wp_getI (ci := 8) (k0 := 0) (pc' := 38) rfl rfl (by decide) (by first | assumption | rfl) ?_
      refine wp_iconst (a := 5) (pc' := 39) rfl rfl rfl ?_
      refine wp_imul (pc' := 40) rfl rfl (by first | exact w32_id (by omega) (by omega) | rfl) ?_
      refine wp_aload_n (pc' := 41) rfl rfl rfl (by decide) ?_
      refine wp_getI (ci := 8) (k0 := 2) (pc' := 44) rfl rfl (by decide) (by first | assumption | rfl) ?_
      refine wp_iadd (pc' := 45) rfl rfl (by first | exact w32_id (by omega) (by omega) | rfl) ?_
      rw [hse]
      refine wp_istore (pc' := 47) rfl rfl (Nat.le_of_ble_eq_true rfl) rfl ?_
      dsimp only [lset, lset2, List.set, List.getElem?_cons_zero, List.getElem?_cons_succ]
      refine wp_aload_n (pc' := 48) rfl rfl rfl (by decide) ?_
      refine wp_getR (r' := 27) (ci := 8) (k0 := 3) (pc' := 51) rfl rfl (by decide) (by first | assumption | rfl) (hT.get 44 rfl) ?_
      refine wp_iload (pc' := 53) rfl rfl rfl ?_
      refine wp_iaload (pc' := 54) rfl rfl (by first | assumption | rfl) (by omega) ?_
      refine wp_iconst (a := -1) (pc' := 55) rfl rfl rfl ?_
      refine wp_icmp_eq (pc' := 58) (pt := 73) rfl rfl rfl (fun q_2 => ?_) (fun q_2 => ?_)
      · skip
        exfalso
        have := cnt_zero hk ((stI (w 3 0) (w 3 1) (w 3 2) (w 4) (w 5) (w 6) p0) m) hsi.1 hsi.2
        omega
      · skip
        refine wp_aload_n (pc' := 59) rfl rfl rfl (by decide) ?_
        refine wp_iload_n (pc' := 60) rfl rfl rfl ?_
        refine wp_aload_n (pc' := 61) rfl rfl rfl (by decide) ?_
        refine wp_getR (r' := 27) (ci := 8) (k0 := 3) (pc' := 64) rfl rfl (by decide) (by first | assumption | rfl) (hT.get 44 rfl) ?_
        refine wp_iload (pc' := 66) rfl rfl rfl ?_
        refine wp_iaload (pc' := 67) rfl rfl (by first | assumption | rfl) (by omega) ?_
        refine wp_isub (pc' := 68) rfl rfl (by first | exact w32_id (by omega) (by omega) | rfl) ?_
        refine wp_putI (ci := 8) (k0 := 1) (pc' := 71) rfl rfl (by decide) (by first | assumption | rfl) ?_
        refine wp_iload_n (pc' := 72) rfl rfl rfl ?_
        refine wp_ret rfl rfl rfl ?_
        refine ⟨congrArg (fun z => some (vI z)) ?_, hS.put (Or.inr (by decide)), ?_⟩
        · skip
          exact hy
        · rw [up_eq]
          show _ = (m : Int) - a ((stI (w 3 0) (w 3 1) (w 3 2) (w 4) (w 5) (w 6) p0) m)
          rw [hsa.1, hy]
  | succ k ih =>
    intro m a y w1 x4 hy hmk hk hS hy0 hy2 ha
    have hyo := @yN_ok _ _ (w 3 2) (w 4) (w 5) (w 6) p0 hl.1 hc0 hb0 (fun j a b => (hl.2.2 j a b).2.2) m
    have hcd := hyo.1.dm hl.1
    have hT := hT0.sameF hS (by decide)
    have e3 : w1 3 = w 3 := hS.cell 3 (by decide) (by decide)
    have e4 : w1 4 = w 4 := hS.cell 4 (by decide) (by decide)
    have e5 : w1 5 = w 5 := hS.cell 5 (by decide) (by decide)
    have e6 : w1 6 = w 6 := hS.cell 6 (by decide) (by decide)
    have hr1 : ROw w1 := by
      unfold ROw
      rw [hS.cell (-3) (by decide) (by decide), hS.cell (-4) (by decide) (by decide), hS.cell (-5) (by decide) (by decide)]
      exact hr0
    have hl1 : LnOK w1 := by
      unfold LnOK
      rw [e3, e4, e5, e6]
      exact hl
    have hx1 : Cel (w1 3 0) (w1 3 1) (w1 26 0) := by rw [e3, hy0]; exact hyo.1
    have hst : (stI (w 3 0) (w 3 1) (w 3 2) (w 4) (w 5) (w 6) p0) m = 5 * w1 26 0 + w1 26 2 := by unfold stI; rw [hy0, hy2]
    have hsi : 0 ≤ (stI (w 3 0) (w 3 1) (w 3 2) (w 4) (w 5) (w 6) p0) m ∧ (stI (w 3 0) (w 3 1) (w 3 2) (w 4) (w 5) (w 6) p0) m < 125 := by rw [hst]; omega
    have hsa := ha ((stI (w 3 0) (w 3 1) (w 3 2) (w 4) (w 5) (w 6) p0) m) hsi.1 hsi.2
    have hse : w1 26 0 * 5 + w1 26 2 = (stI (w 3 0) (w 3 1) (w 3 2) (w 4) (w 5) (w 6) p0) m := by rw [hst]; omega
    have hb1 : 0 ≤ w1 26 0 ∧ w1 26 0 < 25 ∧ 0 ≤ w1 26 2 ∧ w1 26 2 ≤ 4 := by omega
    refine wp_iload_n (pc' := 29) rfl rfl rfl ?_
    refine wp_bipush (a := 125) (pc' := 31) rfl rfl rfl ?_
    refine wp_icmp_gt (pc' := 34) (pt := 93) rfl rfl rfl (fun q_1 => ?_) (fun q_1 => ?_)
    · skip
      exfalso; omega
    · skip
      refine wp_aload_n (pc' := 35) rfl rfl rfl (by decide) ?_
      refine wp_getI (ci := 8) (k0 := 0) (pc' := 38) rfl rfl (by decide) (by first | assumption | rfl) ?_
      refine wp_iconst (a := 5) (pc' := 39) rfl rfl rfl ?_
      refine wp_imul (pc' := 40) rfl rfl (by first | exact w32_id (by omega) (by omega) | rfl) ?_
      refine wp_aload_n (pc' := 41) rfl rfl rfl (by decide) ?_
      refine wp_getI (ci := 8) (k0 := 2) (pc' := 44) rfl rfl (by decide) (by first | assumption | rfl) ?_
      refine wp_iadd (pc' := 45) rfl rfl (by first | exact w32_id (by omega) (by omega) | rfl) ?_
      rw [hse]
      refine wp_istore (pc' := 47) rfl rfl (Nat.le_of_ble_eq_true rfl) rfl ?_
      dsimp only [lset, lset2, List.set, List.getElem?_cons_zero, List.getElem?_cons_succ]
      refine wp_aload_n (pc' := 48) rfl rfl rfl (by decide) ?_
      refine wp_getR (r' := 27) (ci := 8) (k0 := 3) (pc' := 51) rfl rfl (by decide) (by first | assumption | rfl) (hT.get 44 rfl) ?_
      refine wp_iload (pc' := 53) rfl rfl rfl ?_
      refine wp_iaload (pc' := 54) rfl rfl (by first | assumption | rfl) (by omega) ?_
      refine wp_iconst (a := -1) (pc' := 55) rfl rfl rfl ?_
      refine wp_icmp_eq (pc' := 58) (pt := 73) rfl rfl rfl (fun q_2 => ?_) (fun q_2 => ?_)
      · skip
        refine wp_aload_n (pc' := 74) rfl rfl rfl (by decide) ?_
        refine wp_getR (r' := 27) (ci := 8) (k0 := 3) (pc' := 77) rfl rfl (by decide) (by first | assumption | rfl) (hT.get 44 rfl) ?_
        refine wp_iload (pc' := 79) rfl rfl rfl ?_
        refine wp_iload_n (pc' := 80) rfl rfl rfl ?_
        refine wp_iastore (pc' := 81) rfl rfl (by first | assumption | rfl) (by omega) ?_
        refine wp_stc (hT.putA (by decide)) (fun hT => ?_)
        refine wp_aload_n (pc' := 82) rfl rfl rfl (by decide) ?_
        refine wp_aload_n (pc' := 83) rfl rfl rfl (by decide) ?_
        refine wp_aload_n (pc' := 84) rfl rfl rfl (by decide) ?_
        refine wp_call (pc' := 87) rfl rfl rfl rfl rfl ⟨Nat.le_of_ble_eq_true rfl, Nat.le_of_ble_eq_true rfl, Nat.le_of_ble_eq_true rfl, Nat.le_of_ble_eq_true rfl, Nat.le_of_ble_eq_true rfl⟩ rfl (c_Years_pass hT (by unfold ROw at hr1 ⊢; rw [up_ne (by decide), up_ne (by decide), up_ne (by decide)]; exact hr1) (hl1.same (L := [27]) ((Same.rf _ _).put (by decide)) (by decide)) (by rw [up_ne (by decide), up_ne (by decide)]; exact hx1)) ?_
        rintro v1 w2 ⟨hv1, hS2, z0, z2⟩
        rw [hv1]
        clear hv1 v1
        rw [up_ne (show (3 : Int) ≠ 27 by decide), up_ne (show (4 : Int) ≠ 27 by decide), up_ne (show (5 : Int) ≠ 27 by decide), up_ne (show (6 : Int) ≠ 27 by decide), up_ne (show (26 : Int) ≠ 27 by decide), e3, e4, e5, e6, hy0, hy2] at z0 z2
        dsimp only [Option.toList, List.cons_append, List.nil_append, List.append_nil]
        refine wp_iinc (pc' := 90) rfl rfl rfl (inc_id (by omega) (by omega)) rfl ?_
        dsimp only [lset, lset2, List.set, List.getElem?_cons_zero, List.getElem?_cons_succ]
        refine wp_goto (pc' := 28) rfl rfl ?_
        have hcu := cnt_upd (a := a) (s := (stI (w 3 0) (w 3 1) (w 3 2) (w 4) (w 5) (w 6) p0) m) (x := (m : Int)) hsi.1 (by omega) (by omega) 125
        rw [if_pos (show (stI (w 3 0) (w 3 1) (w 3 2) (w 4) (w 5) (w 6) p0) m < ((125 : Nat) : Int) from hsi.2)] at hcu
        refine (ih (m + 1) (updA a ((stI (w 3 0) (w 3 1) (w 3 2) (w 4) (w 5) (w 6) p0) m) m) _ w2 _ (by omega) (by omega) (by omega) ?_ ?_ ?_ (fun j j0 j1 => ?_)).mono (fun v w' hq => ?_)
        · exact (hS.put (Or.inl (by decide))).tr (hS2.mono (by simp) (by simp))
        · rw [z0]; rfl
        · rw [z2]; rfl
        · rw [hS2.cell 27 (by decide) (by decide)]
          unfold updA
          by_cases hj : j = (stI (w 3 0) (w 3 1) (w 3 2) (w 4) (w 5) (w 6) p0) m
          · rw [if_pos hj, hj, up_eq]
            exact ⟨hy, by omega, by omega⟩
          · rw [if_neg hj, up_at hj]
            exact ha j j0 j1
        · rw [rnd, if_neg (by omega)]
          exact hq
      · skip
        refine wp_aload_n (pc' := 59) rfl rfl rfl (by decide) ?_
        refine wp_iload_n (pc' := 60) rfl rfl rfl ?_
        refine wp_aload_n (pc' := 61) rfl rfl rfl (by decide) ?_
        refine wp_getR (r' := 27) (ci := 8) (k0 := 3) (pc' := 64) rfl rfl (by decide) (by first | assumption | rfl) (hT.get 44 rfl) ?_
        refine wp_iload (pc' := 66) rfl rfl rfl ?_
        refine wp_iaload (pc' := 67) rfl rfl (by first | assumption | rfl) (by omega) ?_
        refine wp_isub (pc' := 68) rfl rfl (by first | exact w32_id (by omega) (by omega) | rfl) ?_
        refine wp_putI (ci := 8) (k0 := 1) (pc' := 71) rfl rfl (by decide) (by first | assumption | rfl) ?_
        refine wp_iload_n (pc' := 72) rfl rfl rfl ?_
        refine wp_ret rfl rfl rfl ?_
        refine ⟨congrArg (fun z => some (vI z)) ?_, hS.put (Or.inr (by decide)), ?_⟩
        · rw [rnd, if_pos (by omega)]
          exact hy
        · rw [up_eq]
          rw [rnd, if_pos (by omega)]
          show _ = (m : Int) - a ((stI (w 3 0) (w 3 1) (w 3 2) (w 4) (w 5) (w 6) p0) m)
          rw [hsa.1, hy]
set_option maxRecDepth 20000 in
set_option maxHeartbeats 4000000 in
theorem c_Years_untilRepeat {w : Hp} {d : Nat} (hT : Stc w) (hr : ROw w) (hl : LnOK w) (hx : Cel (w 3 0) (w 3 1) (w 3 3)) (hb : 0 ≤ w 3 4 ∧ w 3 4 ≤ 4) : WP SH (d + 6) 78 0 [some (vR 26), some (vR 3), some (vR 23), none, none] [] w (fun v w' => v = some (vI (rnd (stI (w 3 0) (w 3 1) (w 3 2) (w 4) (w 5) (w 6) (w 3 3, w 3 4)) 125 0 (fun _ => -1)).1) ∧ SameF w w' [24, 25, 27] [(26, 0), (26, 1), (26, 2)] ∧ w' 26 1 = (rnd (stI (w 3 0) (w 3 1) (w 3 2) (w 4) (w 5) (w 6) (w 3 3, w 3 4)) 125 0 (fun _ => -1)).2) := by
  refine wp_iconst (a := 0) (pc' := 1) rfl rfl rfl ?_
  refine wp_istore_n (pc' := 2) rfl rfl (Nat.le_of_ble_eq_true rfl) rfl ?_
  dsimp only [lset, lset2, List.set, List.getElem?_cons_zero, List.getElem?_cons_succ]
  refine l_unseen hT (fun w1 hS1 hz1 => ?_) 125 0 w (by decide) (by decide) (Same.rf _ _) (fun j a b => absurd b (by omega))
  have hT1 := hT.same hS1 (by decide)
  refine wp_aload_n (pc' := 22) rfl rfl rfl (by decide) ?_
  refine wp_aload_n (pc' := 23) rfl rfl rfl (by decide) ?_
  refine wp_call (pc' := 26) rfl rfl rfl rfl rfl ⟨Nat.le_of_ble_eq_true rfl, Nat.le_of_ble_eq_true rfl, Nat.le_of_ble_eq_true rfl, Nat.le_of_ble_eq_true rfl, Nat.le_of_ble_eq_true rfl⟩ rfl (c_Years_begin (w := w1) hT1) ?_
  rintro v1 wB ⟨hv1, hwB⟩
  rw [hv1]
  clear hv1 v1
  dsimp only [Option.toList, List.cons_append, List.nil_append, List.append_nil]
  refine wp_iconst (a := 0) (pc' := 27) rfl rfl rfl ?_
  refine wp_istore_n (pc' := 28) rfl rfl (Nat.le_of_ble_eq_true rfl) rfl ?_
  dsimp only [lset, lset2, List.set, List.getElem?_cons_zero, List.getElem?_cons_succ]
  refine (l_round (w := w) (p0 := (w 3 3, w 3 4)) hT hr hl hx hb 125 0 (fun _ => -1) _ wB _ rfl rfl (cnt_all 125) ?_ ?_ ?_ (fun j j0 j1 => ?_))
  · rw [hwB]
    exact (((hS1.F _).mono (by simp) (fun q hq => Or.inl hq)).put (Or.inr (by decide))).put (Or.inr (by decide))
  · rw [hwB, up_at (by decide), up_eq, hS1 3 (by decide)]
    rfl
  · rw [hwB, up_eq, hS1 3 (by decide)]
    rfl
  · rw [hwB, up_ne (by decide), up_ne (by decide), hz1 j j0 j1]
    exact ⟨rfl, by decide, by decide⟩
set_option maxRecDepth 20000 in
set_option maxHeartbeats 4000000 in
theorem l_Mround {w : Hp} {d : Nat} {p0 : Int × Int} (hT0 : Stc w) (hl : MdOK w) (hc0 : Cel (w 100 11) (w 100 12) p0.1) (hb0 : 0 ≤ p0.2 ∧ p0.2 ≤ 4) : ∀ (k m : Nat) (a : Int → Int) (y : Int) (w1 : Hp), y = m → m + k = 125 → cntN a 125 = k → SameF w w1 [113, 119] [(110, 0), (110, 1), (110, 2)] → w1 110 0 = (yN (w 100 11) (w 100 12) (w 100 10) (w 107) (fun i => w 109 (3 + i)) (w 108) p0 m).1 → w1 110 1 = (yN (w 100 11) (w 100 12) (w 100 10) (w 107) (fun i => w 109 (3 + i)) (w 108) p0 m).2 → (0 ≤ w1 110 2 ∧ w1 110 2 ≤ 40 + m) → (∀ j : Int, 0 ≤ j → j < 125 → w1 119 j = a j ∧ -1 ≤ a j ∧ a j ≤ 125) → WP SH (d + 8) 204 37 [some (vR 100), some (vI y)] [] w1 (fun v w' => v = some (vI (rnd (stI (w 100 11) (w 100 12) (w 100 10) (w 107) (fun i => w 109 (3 + i)) (w 108) p0) k m a).1) ∧ SameF w w' [113, 119] [(110, 0), (110, 1), (110, 2), (100, 2)] ∧ w' 100 2 = (rnd (stI (w 100 11) (w 100 12) (w 100 10) (w 107) (fun i => w 109 (3 + i)) (w 108) p0) k m a).2) := by
  intro k
  induction k with
  | zero =>
    intro m a y w1 hy hmk hk hS hy0 hy2 hyy ha
    have hyo := @yN_ok _ _ (w 100 10) (w 107) (fun i => w 109 (3 + i)) (w 108) p0 hl.1 hc0 hb0 (fun j a b => (hl.2.2 j a b).2.2) m
    have hcd := hyo.1.dm hl.1
    have hT := hT0.sameF hS (by decide)
    have e1 : w1 100 = w 100 := hS.cell 100 (by decide) (by decide)
    have e7 : w1 107 = w 107 := hS.cell 107 (by decide) (by decide)
    have e8 : w1 108 = w 108 := hS.cell 108 (by decide) (by decide)
    have e9 : w1 109 = w 109 := hS.cell 109 (by decide) (by decide)
    have hl1 : MdOK w1 := hl.sameF hS (by decide) (by decide)
    have hx1 : Cel (w1 100 11) (w1 100 12) (w1 110 0) := by rw [e1, hy0]; exact hyo.1
    have hst : (stI (w 100 11) (w 100 12) (w 100 10) (w 107) (fun i => w 109 (3 + i)) (w 108) p0) m = 5 * w1 110 0 + w1 110 1 := by unfold stI; rw [hy0, hy2]
    have hsi : 0 ≤ (stI (w 100 11) (w 100 12) (w 100 10) (w 107) (fun i => w 109 (3 + i)) (w 108) p0) m ∧ (stI (w 100 11) (w 100 12) (w 100 10) (w 107) (fun i => w 109 (3 + i)) (w 108) p0) m < 125 := by rw [hst]; omega
    have hsa := ha ((stI (w 100 11) (w 100 12) (w 100 10) (w 107) (fun i => w 109 (3 + i)) (w 108) p0) m) hsi.1 hsi.2
    have hb1 : 0 ≤ w1 110 0 ∧ w1 110 0 < 25 ∧ 0 ≤ w1 110 1 ∧ w1 110 1 ≤ 4 := by omega
    have hsa2 : w1 119 (5 * w1 110 0 + w1 110 1) = a ((stI (w 100 11) (w 100 12) (w 100 10) (w 107) (fun i => w 109 (3 + i)) (w 108) p0) m) := by rw [← hst]; exact hsa.1
    refine wp_aload_n (pc' := 38) rfl rfl rfl (by decide) ?_
    refine wp_getR (r' := 119) (ci := 10) (k0 := 29) (pc' := 41) rfl rfl (by decide) (by first | assumption | rfl) (hT.get 117 rfl) ?_
    refine wp_iconst (a := 5) (pc' := 42) rfl rfl rfl ?_
    refine wp_aload_n (pc' := 43) rfl rfl rfl (by decide) ?_
    refine wp_getR (r' := 110) (ci := 10) (k0 := 16) (pc' := 46) rfl rfl (by decide) (by first | assumption | rfl) (hT.get 108 rfl) ?_
    refine wp_iconst (a := 0) (pc' := 47) rfl rfl rfl ?_
    refine wp_iaload (pc' := 48) rfl rfl (by first | assumption | rfl) (by omega) ?_
    refine wp_imul (pc' := 49) rfl rfl (by first | exact w32_id (by omega) (by omega) | rfl) ?_
    refine wp_aload_n (pc' := 50) rfl rfl rfl (by decide) ?_
    refine wp_getR (r' := 110) (ci := 10) (k0 := 16) (pc' := 53) rfl rfl (by decide) (by first | assumption | rfl) (hT.get 108 rfl) ?_
    refine wp_iconst (a := 1) (pc' := 54) rfl rfl rfl ?_
    refine wp_iaload (pc' := 55) rfl rfl (by first | assumption | rfl) (by omega) ?_
    refine wp_iadd (pc' := 56) rfl rfl (by first | exact w32_id (by omega) (by omega) | rfl) ?_
    refine wp_iaload (pc' := 57) rfl rfl (by first | assumption | rfl) (by omega) ?_
    refine wp_if_ge (pc' := 60) (pt := 95) rfl rfl rfl (fun q_1 => ?_) (fun q_1 => ?_)
    · skip
      refine wp_aload_n (pc' := 96) rfl rfl rfl (by decide) ?_
      refine wp_iload_n (pc' := 97) rfl rfl rfl ?_
      refine wp_aload_n (pc' := 98) rfl rfl rfl (by decide) ?_
      refine wp_getR (r' := 119) (ci := 10) (k0 := 29) (pc' := 101) rfl rfl (by decide) (by first | assumption | rfl) (hT.get 117 rfl) ?_
      refine wp_iconst (a := 5) (pc' := 102) rfl rfl rfl ?_
      refine wp_aload_n (pc' := 103) rfl rfl rfl (by decide) ?_
      refine wp_getR (r' := 110) (ci := 10) (k0 := 16) (pc' := 106) rfl rfl (by decide) (by first | assumption | rfl) (hT.get 108 rfl) ?_
      refine wp_iconst (a := 0) (pc' := 107) rfl rfl rfl ?_
      refine wp_iaload (pc' := 108) rfl rfl (by first | assumption | rfl) (by omega) ?_
      refine wp_imul (pc' := 109) rfl rfl (by first | exact w32_id (by omega) (by omega) | rfl) ?_
      refine wp_aload_n (pc' := 110) rfl rfl rfl (by decide) ?_
      refine wp_getR (r' := 110) (ci := 10) (k0 := 16) (pc' := 113) rfl rfl (by decide) (by first | assumption | rfl) (hT.get 108 rfl) ?_
      refine wp_iconst (a := 1) (pc' := 114) rfl rfl rfl ?_
      refine wp_iaload (pc' := 115) rfl rfl (by first | assumption | rfl) (by omega) ?_
      refine wp_iadd (pc' := 116) rfl rfl (by first | exact w32_id (by omega) (by omega) | rfl) ?_
      refine wp_iaload (pc' := 117) rfl rfl (by first | assumption | rfl) (by omega) ?_
      refine wp_isub (pc' := 118) rfl rfl (by first | exact w32_id (by omega) (by omega) | rfl) ?_
      refine wp_iload_n (pc' := 119) rfl rfl rfl ?_
      refine wp_call (pc' := 122) rfl rfl rfl rfl rfl ⟨Nat.le_of_ble_eq_true rfl, Nat.le_of_ble_eq_true rfl, Nat.le_of_ble_eq_true rfl, Nat.le_of_ble_eq_true rfl, Nat.le_of_ble_eq_true rfl⟩ rfl (c_Mod_tells) ?_
      rintro v1 w6 ⟨hv1, hw6⟩
      rw [hv1]
      clear hv1 v1
      dsimp only [Option.toList, List.cons_append, List.nil_append, List.append_nil]
      refine wp_ret rfl rfl rfl ?_
      rw [hw6]
      refine ⟨congrArg (fun z => some (vI z)) ?_, ?_, ?_⟩
      · skip
        exact hy
      · exact (hS.mono (fun r hr => hr) (fun q hq => Or.inl (by simp at hq ⊢; rcases hq with rfl | rfl | rfl <;> simp))).put (Or.inr (by decide))
      · rw [up_eq]
        show _ = (m : Int) - a ((stI (w 100 11) (w 100 12) (w 100 10) (w 107) (fun i => w 109 (3 + i)) (w 108) p0) m)
        rw [hsa2, hy]
    · skip
      exfalso
      have := cnt_zero hk ((stI (w 100 11) (w 100 12) (w 100 10) (w 107) (fun i => w 109 (3 + i)) (w 108) p0) m) hsi.1 hsi.2
      omega
  | succ k ih =>
    intro m a y w1 hy hmk hk hS hy0 hy2 hyy ha
    have hyo := @yN_ok _ _ (w 100 10) (w 107) (fun i => w 109 (3 + i)) (w 108) p0 hl.1 hc0 hb0 (fun j a b => (hl.2.2 j a b).2.2) m
    have hcd := hyo.1.dm hl.1
    have hT := hT0.sameF hS (by decide)
    have e1 : w1 100 = w 100 := hS.cell 100 (by decide) (by decide)
    have e7 : w1 107 = w 107 := hS.cell 107 (by decide) (by decide)
    have e8 : w1 108 = w 108 := hS.cell 108 (by decide) (by decide)
    have e9 : w1 109 = w 109 := hS.cell 109 (by decide) (by decide)
    have hl1 : MdOK w1 := hl.sameF hS (by decide) (by decide)
    have hx1 : Cel (w1 100 11) (w1 100 12) (w1 110 0) := by rw [e1, hy0]; exact hyo.1
    have hst : (stI (w 100 11) (w 100 12) (w 100 10) (w 107) (fun i => w 109 (3 + i)) (w 108) p0) m = 5 * w1 110 0 + w1 110 1 := by unfold stI; rw [hy0, hy2]
    have hsi : 0 ≤ (stI (w 100 11) (w 100 12) (w 100 10) (w 107) (fun i => w 109 (3 + i)) (w 108) p0) m ∧ (stI (w 100 11) (w 100 12) (w 100 10) (w 107) (fun i => w 109 (3 + i)) (w 108) p0) m < 125 := by rw [hst]; omega
    have hsa := ha ((stI (w 100 11) (w 100 12) (w 100 10) (w 107) (fun i => w 109 (3 + i)) (w 108) p0) m) hsi.1 hsi.2
    have hb1 : 0 ≤ w1 110 0 ∧ w1 110 0 < 25 ∧ 0 ≤ w1 110 1 ∧ w1 110 1 ≤ 4 := by omega
    have hsa2 : w1 119 (5 * w1 110 0 + w1 110 1) = a ((stI (w 100 11) (w 100 12) (w 100 10) (w 107) (fun i => w 109 (3 + i)) (w 108) p0) m) := by rw [← hst]; exact hsa.1
    refine wp_aload_n (pc' := 38) rfl rfl rfl (by decide) ?_
    refine wp_getR (r' := 119) (ci := 10) (k0 := 29) (pc' := 41) rfl rfl (by decide) (by first | assumption | rfl) (hT.get 117 rfl) ?_
    refine wp_iconst (a := 5) (pc' := 42) rfl rfl rfl ?_
    refine wp_aload_n (pc' := 43) rfl rfl rfl (by decide) ?_
    refine wp_getR (r' := 110) (ci := 10) (k0 := 16) (pc' := 46) rfl rfl (by decide) (by first | assumption | rfl) (hT.get 108 rfl) ?_
    refine wp_iconst (a := 0) (pc' := 47) rfl rfl rfl ?_
    refine wp_iaload (pc' := 48) rfl rfl (by first | assumption | rfl) (by omega) ?_
    refine wp_imul (pc' := 49) rfl rfl (by first | exact w32_id (by omega) (by omega) | rfl) ?_
    refine wp_aload_n (pc' := 50) rfl rfl rfl (by decide) ?_
    refine wp_getR (r' := 110) (ci := 10) (k0 := 16) (pc' := 53) rfl rfl (by decide) (by first | assumption | rfl) (hT.get 108 rfl) ?_
    refine wp_iconst (a := 1) (pc' := 54) rfl rfl rfl ?_
    refine wp_iaload (pc' := 55) rfl rfl (by first | assumption | rfl) (by omega) ?_
    refine wp_iadd (pc' := 56) rfl rfl (by first | exact w32_id (by omega) (by omega) | rfl) ?_
    refine wp_iaload (pc' := 57) rfl rfl (by first | assumption | rfl) (by omega) ?_
    refine wp_if_ge (pc' := 60) (pt := 95) rfl rfl rfl (fun q_1 => ?_) (fun q_1 => ?_)
    · skip
      refine wp_aload_n (pc' := 96) rfl rfl rfl (by decide) ?_
      refine wp_iload_n (pc' := 97) rfl rfl rfl ?_
      refine wp_aload_n (pc' := 98) rfl rfl rfl (by decide) ?_
      refine wp_getR (r' := 119) (ci := 10) (k0 := 29) (pc' := 101) rfl rfl (by decide) (by first | assumption | rfl) (hT.get 117 rfl) ?_
      refine wp_iconst (a := 5) (pc' := 102) rfl rfl rfl ?_
      refine wp_aload_n (pc' := 103) rfl rfl rfl (by decide) ?_
      refine wp_getR (r' := 110) (ci := 10) (k0 := 16) (pc' := 106) rfl rfl (by decide) (by first | assumption | rfl) (hT.get 108 rfl) ?_
      refine wp_iconst (a := 0) (pc' := 107) rfl rfl rfl ?_
      refine wp_iaload (pc' := 108) rfl rfl (by first | assumption | rfl) (by omega) ?_
      refine wp_imul (pc' := 109) rfl rfl (by first | exact w32_id (by omega) (by omega) | rfl) ?_
      refine wp_aload_n (pc' := 110) rfl rfl rfl (by decide) ?_
      refine wp_getR (r' := 110) (ci := 10) (k0 := 16) (pc' := 113) rfl rfl (by decide) (by first | assumption | rfl) (hT.get 108 rfl) ?_
      refine wp_iconst (a := 1) (pc' := 114) rfl rfl rfl ?_
      refine wp_iaload (pc' := 115) rfl rfl (by first | assumption | rfl) (by omega) ?_
      refine wp_iadd (pc' := 116) rfl rfl (by first | exact w32_id (by omega) (by omega) | rfl) ?_
      refine wp_iaload (pc' := 117) rfl rfl (by first | assumption | rfl) (by omega) ?_
      refine wp_isub (pc' := 118) rfl rfl (by first | exact w32_id (by omega) (by omega) | rfl) ?_
      refine wp_iload_n (pc' := 119) rfl rfl rfl ?_
      refine wp_call (pc' := 122) rfl rfl rfl rfl rfl ⟨Nat.le_of_ble_eq_true rfl, Nat.le_of_ble_eq_true rfl, Nat.le_of_ble_eq_true rfl, Nat.le_of_ble_eq_true rfl, Nat.le_of_ble_eq_true rfl⟩ rfl (c_Mod_tells) ?_
      rintro v1 w6 ⟨hv1, hw6⟩
      rw [hv1]
      clear hv1 v1
      dsimp only [Option.toList, List.cons_append, List.nil_append, List.append_nil]
      refine wp_ret rfl rfl rfl ?_
      first
      | (exfalso; omega)
      | (rw [hw6]
         refine ⟨congrArg (fun z => some (vI z)) ?_, ?_, ?_⟩
         · rw [rnd, if_pos (by omega)]
           exact hy
         · exact (hS.mono (fun r hr => hr) (fun q hq => Or.inl (by simp at hq ⊢; rcases hq with rfl | rfl | rfl <;> simp))).put (Or.inr (by decide))
         · rw [up_eq]
           rw [rnd, if_pos (by omega)]
           show _ = (m : Int) - a ((stI (w 100 11) (w 100 12) (w 100 10) (w 107) (fun i => w 109 (3 + i)) (w 108) p0) m)
           rw [hsa2, hy])
    · skip
      refine wp_aload_n (pc' := 61) rfl rfl rfl (by decide) ?_
      refine wp_getR (r' := 119) (ci := 10) (k0 := 29) (pc' := 64) rfl rfl (by decide) (by first | assumption | rfl) (hT.get 117 rfl) ?_
      refine wp_iconst (a := 5) (pc' := 65) rfl rfl rfl ?_
      refine wp_aload_n (pc' := 66) rfl rfl rfl (by decide) ?_
      refine wp_getR (r' := 110) (ci := 10) (k0 := 16) (pc' := 69) rfl rfl (by decide) (by first | assumption | rfl) (hT.get 108 rfl) ?_
      refine wp_iconst (a := 0) (pc' := 70) rfl rfl rfl ?_
      refine wp_iaload (pc' := 71) rfl rfl (by first | assumption | rfl) (by omega) ?_
      refine wp_imul (pc' := 72) rfl rfl (by first | exact w32_id (by omega) (by omega) | rfl) ?_
      refine wp_aload_n (pc' := 73) rfl rfl rfl (by decide) ?_
      refine wp_getR (r' := 110) (ci := 10) (k0 := 16) (pc' := 76) rfl rfl (by decide) (by first | assumption | rfl) (hT.get 108 rfl) ?_
      refine wp_iconst (a := 1) (pc' := 77) rfl rfl rfl ?_
      refine wp_iaload (pc' := 78) rfl rfl (by first | assumption | rfl) (by omega) ?_
      refine wp_iadd (pc' := 79) rfl rfl (by first | exact w32_id (by omega) (by omega) | rfl) ?_
      refine wp_iload_n (pc' := 80) rfl rfl rfl ?_
      refine wp_iastore (pc' := 81) rfl rfl (by first | assumption | rfl) (by omega) ?_
      refine wp_stc (hT.putA (by decide)) (fun hT => ?_)
      refine wp_iinc (pc' := 84) rfl rfl rfl (inc_id (by omega) (by omega)) rfl ?_
      dsimp only [lset, lset2, List.set, List.getElem?_cons_zero, List.getElem?_cons_succ]
      refine wp_aload_n (pc' := 85) rfl rfl rfl (by decide) ?_
      refine wp_aload_n (pc' := 86) rfl rfl rfl (by decide) ?_
      refine wp_getR (r' := 110) (ci := 10) (k0 := 16) (pc' := 89) rfl rfl (by decide) (by first | assumption | rfl) (hT.get 108 rfl) ?_
      refine wp_call (pc' := 92) rfl rfl rfl rfl rfl ⟨Nat.le_of_ble_eq_true rfl, Nat.le_of_ble_eq_true rfl, Nat.le_of_ble_eq_true rfl, Nat.le_of_ble_eq_true rfl, Nat.le_of_ble_eq_true rfl⟩ rfl (c_Mod_passes_tried hT (hl1.same (L := [119]) ((Same.rf _ _).put (by decide)) (by decide)) (by rw [up_ne (by decide), up_ne (by decide)]; exact hx1) (by rw [up_ne (by decide)]; omega)) ?_
      rintro v1 w2 ⟨hv1, hS2, z0, z1, z2⟩
      rw [hv1]
      clear hv1 v1
      rw [up_ne (show (100 : Int) ≠ 119 by decide), up_ne (show (107 : Int) ≠ 119 by decide), up_ne (show (108 : Int) ≠ 119 by decide), up_ne (show (109 : Int) ≠ 119 by decide), up_ne (show (110 : Int) ≠ 119 by decide), e1, e7, e8, e9, hy0, hy2] at z0 z1
      rw [up_ne (show (110 : Int) ≠ 119 by decide)] at z2
      dsimp only [Option.toList, List.cons_append, List.nil_append, List.append_nil]
      refine wp_goto (pc' := 37) rfl rfl ?_
      have hcu := cnt_upd (a := a) (s := (stI (w 100 11) (w 100 12) (w 100 10) (w 107) (fun i => w 109 (3 + i)) (w 108) p0) m) (x := (m : Int)) hsi.1 (by omega) (by omega) 125
      rw [if_pos (show (stI (w 100 11) (w 100 12) (w 100 10) (w 107) (fun i => w 109 (3 + i)) (w 108) p0) m < ((125 : Nat) : Int) from hsi.2)] at hcu
      refine (ih (m + 1) (updA a ((stI (w 100 11) (w 100 12) (w 100 10) (w 107) (fun i => w 109 (3 + i)) (w 108) p0) m) m) _ w2 (by omega) (by omega) (by omega) ?_ ?_ ?_ ?_ (fun j j0 j1 => ?_)).mono (fun v w' hq => ?_)
      · exact (hS.put (Or.inl (by decide))).tr (hS2.mono (by simp) (by simp))
      · rw [z0]; rfl
      · rw [z1]; rfl
      · omega
      · rw [hS2.cell 119 (by decide) (by decide), ← hst]
        unfold updA
        by_cases hj : j = (stI (w 100 11) (w 100 12) (w 100 10) (w 107) (fun i => w 109 (3 + i)) (w 108) p0) m
        · rw [if_pos hj, hj, up_eq]
          exact ⟨hy, by omega, by omega⟩
        · rw [if_neg hj, up_at hj]
          exact ha j j0 j1
      · rw [rnd, if_neg (by omega)]
        exact hq
set_option maxRecDepth 20000 in
set_option maxHeartbeats 4000000 in
theorem p_round {w : Hp} {d : Nat} (hI : Inv w) : WP SH (d + 9) 104 0 [some (vR 0), none] [] w (fun v0 w1 => ∃ a, v0 = some (vI a) ∧ w1 (-2) = w (-2) ∧ WP SH (d + 9) 204 0 [some (vR 100), none] [] w1 (fun v2 w2 => v2 = some (vI a) ∧ w2 (-2) = w1 (-2) ∧ Inv w2)) := by
  obtain ⟨hT, hRO, hIF, hITo, hIR, hIT, hIL, hIK⟩ := id hI
  obtain ⟨hn25, b11, b12, b10, hn6, hem, m0, m1, m2, m23, hyr, hdd, hpre⟩ := hI.base
  have hmm : w 100 11 * w 100 12 = w 3 0 * w 3 1 := by rw [b11, b12]
  refine wp_aload_n (pc' := 1) rfl rfl rfl (by decide) ?_
  refine wp_getR (r' := 3) (ci := 9) (k0 := 2) (pc' := 4) rfl rfl (by decide) (by first | assumption | rfl) (hT.get 2 rfl) ?_
  refine wp_call (pc' := 7) rfl rfl rfl rfl rfl ⟨Nat.le_of_ble_eq_true rfl, Nat.le_of_ble_eq_true rfl, Nat.le_of_ble_eq_true rfl, Nat.le_of_ble_eq_true rfl, Nat.le_of_ble_eq_true rfl⟩ rfl (c_Land_isEmpty_3) ?_
  rintro v1 w9 ⟨hw9, ⟨hv1, he⟩ | ⟨hv1, he⟩⟩
  · skip
    rw [hv1, hw9]
    clear hv1 hw9 v1 w9
    dsimp only [Option.toList, List.cons_append, List.nil_append, List.append_nil]
    refine wp_if_eq (pc' := 10) (pt := 13) rfl rfl rfl (fun q_1 => absurd q_1 (by decide)) (fun q_1 => ?_)
    refine wp_bipush (a := -4) (pc' := 12) rfl rfl rfl ?_
    refine wp_ret rfl rfl rfl ?_
    refine ⟨_, rfl, ?_, ?_⟩
    · rfl
    refine wp_aload_n (pc' := 1) rfl rfl rfl (by decide) ?_
    refine wp_getI (ci := 10) (k0 := 10) (pc' := 4) rfl rfl (by decide) (by first | assumption | rfl) ?_
    refine wp_if_ne (pc' := 7) (pt := 10) rfl rfl rfl (fun q_52 => ?_) (fun q_52 => ?_)
    · skip
      exfalso; omega
    · skip
      refine wp_bipush (a := -4) (pc' := 9) rfl rfl rfl ?_
      refine wp_ret rfl rfl rfl ?_
      first
      | (exfalso; omega)
      | exact ⟨rfl, rfl, hI⟩
  · skip
    rw [hv1, hw9]
    clear hv1 hw9 v1 w9
    have hpr := hpre (by omega)
    have hn0 : w 3 2 ≠ 0 := by omega
    dsimp only [Option.toList, List.cons_append, List.nil_append, List.append_nil]
    refine wp_if_eq (pc' := 10) (pt := 13) rfl rfl rfl (fun q_53 => ?_) (fun q_53 => absurd (by decide) q_53)
    refine wp_aload_n (pc' := 14) rfl rfl rfl (by decide) ?_
    refine wp_getR (r' := 26) (ci := 9) (k0 := 7) (pc' := 17) rfl rfl (by decide) (by first | assumption | rfl) (hT.get 7 rfl) ?_
    refine wp_aload_n (pc' := 18) rfl rfl rfl (by decide) ?_
    refine wp_getR (r' := 3) (ci := 9) (k0 := 2) (pc' := 21) rfl rfl (by decide) (by first | assumption | rfl) (hT.get 2 rfl) ?_
    refine wp_aload_n (pc' := 22) rfl rfl rfl (by decide) ?_
    refine wp_getR (r' := 23) (ci := 9) (k0 := 6) (pc' := 25) rfl rfl (by decide) (by first | assumption | rfl) (hT.get 6 rfl) ?_
    refine wp_call (pc' := 28) rfl rfl rfl rfl rfl ⟨Nat.le_of_ble_eq_true rfl, Nat.le_of_ble_eq_true rfl, Nat.le_of_ble_eq_true rfl, Nat.le_of_ble_eq_true rfl, Nat.le_of_ble_eq_true rfl⟩ rfl (c_Years_untilRepeat hT hRO hpr.1 hpr.2.2.1 hpr.2.2.2.1) ?_
    rintro v1 w1 ⟨hv1, hS1, h26⟩
    rw [hv1]
    clear hv1 v1
    have hQ1 : SameF w w1 LQ FQ := qry hS1 (by decide) (by decide)
    obtain ⟨hT, hr1, hl1, hm1, e31, e41, e51, e61, g111, g121, g101, g71, g81, g91, hx1⟩ := vw hI hn0 hQ1
    dsimp only [Option.toList, List.cons_append, List.nil_append, List.append_nil]
    refine wp_istore_n (pc' := 29) rfl rfl (Nat.le_of_ble_eq_true rfl) rfl ?_
    dsimp only [lset, lset2, List.set, List.getElem?_cons_zero, List.getElem?_cons_succ]
    refine wp_aload_n (pc' := 30) rfl rfl rfl (by decide) ?_
    refine wp_aload_n (pc' := 31) rfl rfl rfl (by decide) ?_
    refine wp_getR (r' := 26) (ci := 9) (k0 := 7) (pc' := 34) rfl rfl (by decide) (by first | assumption | rfl) (hT.get 7 rfl) ?_
    refine wp_getI (ci := 8) (k0 := 1) (pc' := 37) rfl rfl (by decide) (by first | assumption | rfl) ?_
    refine wp_putI (ci := 9) (k0 := 14) (pc' := 40) rfl rfl (by decide) (by first | assumption | rfl) ?_
    refine wp_iload_n (pc' := 41) rfl rfl rfl ?_
    refine wp_ret rfl rfl rfl ?_
    refine ⟨_, rfl, ?_, ?_⟩
    · rw [up_ne (by decide)]; exact hS1.cell (-2) (by decide) (by decide)
    obtain ⟨w3, hw3⟩ : ∃ w3, w3 = up w1 0 14 (w1 26 1) := ⟨_, rfl⟩
    rw [← hw3]
    have hQ3 : SameF w w3 LQ FQ := by rw [hw3]; exact hQ1.put (Or.inr (by decide))
    have e314 : w3 0 14 = (rnd (stI (w 3 0) (w 3 1) (w 3 2) (w 4) (w 5) (w 6) (w 3 3, w 3 4)) 125 0 (fun _ => -1)).2 := by rw [hw3, up_eq]; exact h26
    obtain ⟨hT, hr3, hl3, hm3, e33, e43, e53, e63, g113, g123, g103, g73, g83, g93, hx3⟩ := vw hI hn0 hQ3
    refine wp_aload_n (pc' := 1) rfl rfl rfl (by decide) ?_
    refine wp_getI (ci := 10) (k0 := 10) (pc' := 4) rfl rfl (by decide) (by first | assumption | rfl) ?_
    refine wp_if_ne (pc' := 7) (pt := 10) rfl rfl rfl (fun q_104 => ?_) (fun q_104 => ?_)
    · skip
      refine wp_iconst (a := 0) (pc' := 11) rfl rfl rfl ?_
      refine wp_istore_n (pc' := 12) rfl rfl (Nat.le_of_ble_eq_true rfl) rfl ?_
      dsimp only [lset, lset2, List.set, List.getElem?_cons_zero, List.getElem?_cons_succ]
      refine l_Munseen hT (fun w4 hS4 hz4 => ?_) 125 0 w3 (by decide) (by decide) (Same.rf _ _) (fun j a b => absurd b (by omega))
      have hQ4 : SameF w w4 LQ FQ := hQ3.tr (qry (hS4.F []) (by decide) (by decide))
      obtain ⟨hT, hr4, hl4, hm4, e34, e44, e54, e64, g114, g124, g104, g74, g84, g94, hx4⟩ := vw hI hn0 hQ4
      refine wp_aload_n (pc' := 32) rfl rfl rfl (by decide) ?_
      refine wp_call (pc' := 35) rfl rfl rfl rfl rfl ⟨Nat.le_of_ble_eq_true rfl, Nat.le_of_ble_eq_true rfl, Nat.le_of_ble_eq_true rfl, Nat.le_of_ble_eq_true rfl, Nat.le_of_ble_eq_true rfl⟩ rfl (c_Mod_copyNow hT) ?_
      rintro v1 w5 ⟨hv1, hS5, hz5⟩
      rw [hv1]
      clear hv1 v1
      have hQ5 : SameF w w5 LQ FQ := hQ4.tr (qry (hS5.F []) (by decide) (by decide))
      obtain ⟨hT, hr5, hl5, hm5, e35, e45, e55, e65, g115, g125, g105, g75, g85, g95, hx5⟩ := vw hI hn0 hQ5
      dsimp only [Option.toList, List.cons_append, List.nil_append, List.append_nil]
      refine wp_iconst (a := 0) (pc' := 36) rfl rfl rfl ?_
      refine wp_istore_n (pc' := 37) rfl rfl (Nat.le_of_ble_eq_true rfl) rfl ?_
      dsimp only [lset, lset2, List.set, List.getElem?_cons_zero, List.getElem?_cons_succ]
      refine (l_Mround (w := w5) (p0 := (w 3 3, w 3 4)) hT hm5 (by rw [g115, g125]; exact hpr.2.2.1) hpr.2.2.2.1 125 0 (fun _ => -1) _ w5 rfl rfl (cnt_all 125) (SameF.rf _ _ _) ?_ ?_ ?_ (fun j j0 j1 => ?_)).mono (fun v w6 hq => ?_)
      · rw [hz5 0 (by decide) (by decide), g94, m0]; rfl
      · rw [hz5 1 (by decide) (by decide), g94, m1]; rfl
      · rw [hz5 2 (by decide) (by decide), g94, m2]; omega
      · rw [hS5 119 (by decide), hz4 j j0 j1]
        exact ⟨rfl, by decide, by decide⟩
      · have hre : ∀ m, stI (w5 100 11) (w5 100 12) (w5 100 10) (w5 107) (fun i => w5 109 (3 + i)) (w5 108) (w 3 3, w 3 4) m = stI (w 3 0) (w 3 1) (w 3 2) (w 4) (w 5) (w 6) (w 3 3, w 3 4) m := fun m => by
          rw [g115, g125, g105, g75, g85, g95]
          unfold stI
          rw [yN_congr (fun j a b => hpr.2.2.2.2 j a b)]
        rw [rnd_congr hre] at hq
        refine ⟨hq.1, ?_, hI.query (w' := w6) (hQ5.tr (qry hq.2.1 (by decide) (by decide))) ?_⟩
        · rw [hq.2.1.cell (-2) (by decide) (by decide), hS5 (-2) (by decide), hS4 (-2) (by decide)]
        · rw [hq.2.2, hq.2.1.cell 0 (by decide) (by decide), hS5 0 (by decide), hS4 0 (by decide), e314]
    · skip
      refine wp_bipush (a := -4) (pc' := 9) rfl rfl rfl ?_
      refine wp_ret rfl rfl rfl ?_
      first
      | (exfalso; omega)
      | exact ⟨rfl, rfl, hI⟩
