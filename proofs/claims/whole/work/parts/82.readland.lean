/-! reading a land: the whole, the class's side -/
def endR (z n : Int) : Int := if n = 0 then z else -9
def rn (T : Int → Int) (z c l : Int) : Nat → Int → Int → (Int → Int × Int × Int × Int) → Int × Int × (Int → Int × Int × Int × Int)
  | 0, _, n, D => (endR z n, n, D)
  | k + 1, p, n, D => if z ≤ p then (endR z n, n, D) else if bA T z p = 32 then rn T z c l k (p + 1) n D else if kd (bA T z p) = -1 ∨ n = 6 then (p, n, D) else if oE T z c l p < p + 4 then (oE T z c l p, n, D) else rn T z c l k (p + 4) (n + 1) (fun j => if j = n then (kd (bA T z p), fg T z (p + 1) 0 (c - 1), fg T z (p + 2) 0 (l - 1), fg T z (p + 3) 1 9) else D j)
theorem rn_end {T : Int → Int} {z c l : Int} {k : Nat} {p n : Int} {D : Int → Int × Int × Int × Int} (h : z ≤ p) : rn T z c l k p n D = (endR z n, n, D) := by
  cases k with
  | zero => rfl
  | succ k => unfold rn; rw [if_pos h]
theorem rn_fuel {T : Int → Int} {z c l : Int} : ∀ (k k' : Nat) (p n : Int) (D : Int → Int × Int × Int × Int), z - p ≤ k → z - p ≤ k' → rn T z c l k p n D = rn T z c l k' p n D := by
  intro k
  induction k with
  | zero => intro k' p n D h h'; rw [rn_end (by omega), rn_end (by omega)]
  | succ k ih =>
    intro k' p n D h h'
    by_cases hz : z ≤ p
    · rw [rn_end hz, rn_end hz]
    · cases k' with
      | zero => exact absurd h' (by omega)
      | succ k' =>
        unfold rn
        rw [if_neg hz, if_neg hz, ih k' (p + 1) n D (by omega) (by omega), ih k' (p + 4) (n + 1) _ (by omega) (by omega)]
def RR (T : Int → Int) (z c l p n : Int) (D : Int → Int × Int × Int × Int) : Int × Int × (Int → Int × Int × Int × Int) := rn T z c l 61 p n D
theorem RR_at {T : Int → Int} {z c l p n : Int} {D : Int → Int × Int × Int × Int} (h0 : 0 ≤ p) (hz : z ≤ 60) (hp : p < z) : RR T z c l p n D = if bA T z p = 32 then RR T z c l (p + 1) n D else if kd (bA T z p) = -1 ∨ n = 6 then (p, n, D) else if oE T z c l p < p + 4 then (oE T z c l p, n, D) else RR T z c l (p + 4) (n + 1) (fun j => if j = n then (kd (bA T z p), fg T z (p + 1) 0 (c - 1), fg T z (p + 2) 0 (l - 1), fg T z (p + 3) 1 9) else D j) := by
  have h1 := rn_fuel (T := T) (z := z) (c := c) (l := l) 60 61 (p + 1) n D (by omega) (by omega)
  have h2 := rn_fuel (T := T) (z := z) (c := c) (l := l) 60 61 (p + 4) (n + 1) (fun j => if j = n then (kd (bA T z p), fg T z (p + 1) 0 (c - 1), fg T z (p + 2) 0 (l - 1), fg T z (p + 3) 1 9) else D j) (by omega) (by omega)
  unfold RR
  rw [← h1, ← h2]
  show (if z ≤ p then _ else _) = _
  rw [if_neg (by omega)]
theorem RR_end {T : Int → Int} {z c l p n : Int} {D : Int → Int × Int × Int × Int} (h : z ≤ p) : RR T z c l p n D = (endR z n, n, D) := rn_end h
theorem RR_skip {T : Int → Int} {z c l n q : Int} {D : Int → Int × Int × Int × Int} (hz : z ≤ 60) (hq : q ≤ z) : ∀ (k : Nat) (p : Int), 0 ≤ p → p + k = q → (∀ i : Int, p ≤ i → i < q → T i = 32) → RR T z c l p n D = RR T z c l q n D := by
  intro k
  induction k with
  | zero => intro p _ h _; rw [show p = q by omega]
  | succ k ih =>
    intro p h0 h hb
    have hp := hb p (by omega) (by omega)
    have hbp : bA T z p = 32 := by unfold bA; rw [if_pos (by omega)]; exact hp
    rw [RR_at h0 hz (by omega), if_pos hbp]
    exact ih (p + 1) (by omega) (by omega) (fun i a b => hb i (by omega) b)
/-- people read so far: the class's, and their bounds -/
def DM (w : Hp) (c l : Int) (D : Int → Int × Int × Int × Int) (n : Int) : Prop := ∀ j : Int, 0 ≤ j → j < n → w 13 j = (D j).1 ∧ w 14 j = c * (D j).2.2.1 + (D j).2.1 ∧ w 15 j = (D j).2.2.2 ∧ (0 ≤ (D j).1 ∧ (D j).1 ≤ 5) ∧ (0 ≤ (D j).2.1 ∧ (D j).2.1 ≤ c - 1) ∧ (0 ≤ (D j).2.2.1 ∧ (D j).2.2.1 ≤ l - 1) ∧ (1 ≤ (D j).2.2.2 ∧ (D j).2.2.2 ≤ 9)
def KF : List (Int × Int) := [(12, 2), (22, 1)]
set_option maxRecDepth 20000 in
set_option maxHeartbeats 4000000 in
theorem c_Land_clear_s {w : Hp} {d : Nat} {o : Int} (ho : LandAt w o) : WP SH (d + 0) 23 0 [some (vR o)] [] w (fun v w' => v = none ∧ SameF w w' [] [(o, 0), (o, 1), (o, 2), (o, 3), (o, 4), (o, 5), (o, 6)] ∧ ∀ j : Int, 0 ≤ j → j < 7 → w' o j = 0) := by
  have ho0 := ho.1.1
  have hsho := ho.1.2
  refine wp_aload_n (pc' := 1) rfl rfl rfl (by omega) ?_
  refine wp_iconst (a := 0) (pc' := 2) rfl rfl rfl ?_
  refine wp_putI (ci := 3) (k0 := 0) (pc' := 5) rfl rfl (by decide) (by first | assumption | rfl) ?_
  refine wp_aload_n (pc' := 6) rfl rfl rfl (by omega) ?_
  refine wp_iconst (a := 0) (pc' := 7) rfl rfl rfl ?_
  refine wp_putI (ci := 3) (k0 := 1) (pc' := 10) rfl rfl (by decide) (by first | assumption | rfl) ?_
  refine wp_aload_n (pc' := 11) rfl rfl rfl (by omega) ?_
  refine wp_iconst (a := 0) (pc' := 12) rfl rfl rfl ?_
  refine wp_putI (ci := 3) (k0 := 2) (pc' := 15) rfl rfl (by decide) (by first | assumption | rfl) ?_
  refine wp_aload_n (pc' := 16) rfl rfl rfl (by omega) ?_
  refine wp_iconst (a := 0) (pc' := 17) rfl rfl rfl ?_
  refine wp_putI (ci := 3) (k0 := 3) (pc' := 20) rfl rfl (by decide) (by first | assumption | rfl) ?_
  refine wp_aload_n (pc' := 21) rfl rfl rfl (by omega) ?_
  refine wp_iconst (a := 0) (pc' := 22) rfl rfl rfl ?_
  refine wp_putI (ci := 3) (k0 := 4) (pc' := 25) rfl rfl (by decide) (by first | assumption | rfl) ?_
  refine wp_aload_n (pc' := 26) rfl rfl rfl (by omega) ?_
  refine wp_iconst (a := 0) (pc' := 27) rfl rfl rfl ?_
  refine wp_putI (ci := 3) (k0 := 5) (pc' := 30) rfl rfl (by decide) (by first | assumption | rfl) ?_
  refine wp_aload_n (pc' := 31) rfl rfl rfl (by omega) ?_
  refine wp_iconst (a := 0) (pc' := 32) rfl rfl rfl ?_
  refine wp_putI (ci := 3) (k0 := 6) (pc' := 35) rfl rfl (by decide) (by first | assumption | rfl) ?_
  refine wp_ret rfl rfl rfl ?_
  refine ⟨rfl, (((((((SameF.rf _ _ _).put (Or.inr (by simp))).put (Or.inr (by simp))).put (Or.inr (by simp))).put (Or.inr (by simp))).put (Or.inr (by simp))).put (Or.inr (by simp))).put (Or.inr (by simp)), fun j j0 j7 => ?_⟩
  have hj : j = 0 ∨ j = 1 ∨ j = 2 ∨ j = 3 ∨ j = 4 ∨ j = 5 ∨ j = 6 := by omega
  rcases hj with rfl | rfl | rfl | rfl | rfl | rfl | rfl
  · rw [up_at (by decide), up_at (by decide), up_at (by decide), up_at (by decide), up_at (by decide), up_at (by decide), up_eq]
  · rw [up_at (by decide), up_at (by decide), up_at (by decide), up_at (by decide), up_at (by decide), up_eq]
  · rw [up_at (by decide), up_at (by decide), up_at (by decide), up_at (by decide), up_eq]
  · rw [up_at (by decide), up_at (by decide), up_at (by decide), up_eq]
  · rw [up_at (by decide), up_at (by decide), up_eq]
  · rw [up_at (by decide), up_eq]
  · rw [up_eq]
set_option maxRecDepth 20000 in
set_option maxHeartbeats 4000000 in
theorem l_people {w : Hp} {d : Nat} {s pa z : Int} (hT0 : Stc w) (hr0 : ROw w) (hR0 : Rd w s pa z) (hc : CL (w 12 0) (w 12 1)) : ∀ (k : Nat) (n p : Int) (D : Int → Int × Int × Int × Int) (w1 : Hp), 0 ≤ n → n + k = 6 → 0 ≤ p → p ≤ z → (p = z ∨ (p < z ∧ w pa p ≠ 32)) → SameF w w1 [13, 14, 15] KF → w1 12 2 = n → w1 22 1 = p → DM w1 (w 12 0) (w 12 1) D n → WP SH (d + 3) 61 33 [some (vR 22), some (vR s), some (vR 12), some (vI n)] [] w1 (fun v w' => (v = some (vI (RR (w pa) z (w 12 0) (w 12 1) p n D).1) ∧ SameF w w' [13, 14, 15] KF ∧ w' 12 2 = (RR (w pa) z (w 12 0) (w 12 1) p n D).2.1 ∧ (0 ≤ w' 12 2 ∧ w' 12 2 ≤ 6) ∧ DM w' (w 12 0) (w 12 1) (RR (w pa) z (w 12 0) (w 12 1) p n D).2.2 (w' 12 2))) := by
  intro k
  induction k with
  | zero =>
    intro n p D w1 hn0 hnk hp0 hpz hnb hS h2 hp1 hD
    have hT := hT0.sameF hS (by decide)
    have hz60 := hR0.2.2.2.1
    have hpa9 := hR0.2.2.2.2.2.2
    have hs9 := hR0.2.2.2.2.2.1
    have e120 : w1 12 0 = w 12 0 := hS 12 0 (by decide) (by decide)
    have e121 : w1 12 1 = w 12 1 := hS 12 1 (by decide) (by decide)
    have hr1 : ROw w1 := by
      unfold ROw
      rw [hS.cell (-3) (by decide) (by decide), hS.cell (-4) (by decide) (by decide), hS.cell (-5) (by decide) (by decide)]
      exact hr0
    have epa : w1 pa = w pa := hS.cell pa (by simp; omega) (by simp [KF]; omega)
    have es : w1 s = w s := hS.cell s (by simp; omega) (by simp [KF]; omega)
    have hR1 : Rd w1 s pa z := by
      obtain ⟨h1, ⟨a1, a2, a3, a4, a5, a6, a7⟩, h3, h4, h5, h6, h7⟩ := hR0
      exact ⟨by rw [hS 22 0 (by decide) (by decide)]; exact h1, ⟨a1, a2, by rw [es]; exact a3, a4, a5, a6, a7⟩, by rw [es]; exact h3, h4, by rw [epa]; exact h5, h6, h7⟩
    have hid : up w1 22 1 p = w1 := by rw [← hp1]; exact up_id w1 22 1
    have hbA : p < z → bA (w pa) z p = w pa p := fun h => if_pos h
    refine wp_iload_n (pc' := 34) rfl rfl rfl ?_
    refine wp_bipush (a := 6) (pc' := 36) rfl rfl rfl ?_
    refine wp_icmp_ge (pc' := 39) (pt := 69) rfl rfl rfl (fun q_1 => ?_) (fun q_1 => ?_)
    · skip
      refine wp_aload_n (pc' := 70) rfl rfl rfl (by omega) ?_
      refine wp_call (pc' := 73) rfl rfl rfl rfl rfl ⟨Nat.le_of_ble_eq_true rfl, Nat.le_of_ble_eq_true rfl, Nat.le_of_ble_eq_true rfl, Nat.le_of_ble_eq_true rfl, Nat.le_of_ble_eq_true rfl⟩ rfl (c_Rd_atEnd hR1) ?_
      rintro v1 w9 ⟨hw9, ⟨hv1, hat⟩ | ⟨hv1, hat⟩⟩
      · skip
        rw [hv1, hw9]
        clear hv1 hw9 v1 w9
        rw [hp1] at hat
        dsimp only [Option.toList, List.cons_append, List.nil_append, List.append_nil]
        refine wp_if_eq (pc' := 76) (pt := 88) rfl rfl rfl (fun q_2 => absurd q_2 (by decide)) (fun q_2 => ?_)
        refine wp_aload_n (pc' := 77) rfl rfl rfl (by decide) ?_
        refine wp_getI (ci := 3) (k0 := 2) (pc' := 80) rfl rfl (by decide) (by first | assumption | rfl) ?_
        refine wp_if_le (pc' := 83) (pt := 88) rfl rfl rfl (fun q_3 => ?_) (fun q_3 => ?_)
        · skip
          refine wp_aload_n (pc' := 89) rfl rfl rfl (by omega) ?_
          refine wp_getI (ci := 6) (k0 := 1) (pc' := 92) rfl rfl (by decide) (by first | assumption | rfl) ?_
          refine wp_ret rfl rfl rfl ?_
          first
          | (exfalso; omega)
          | (have hRR : RR (w pa) z (w 12 0) (w 12 1) p n D = (endR z n, n, D) := RR_end (by omega)
             rw [hRR]
             exact ⟨by unfold endR; first | rw [if_pos (by omega), hp1, show p = z by omega] | rw [if_neg (by omega)], hS, h2, by omega, by rw [h2]; exact hD⟩)
          | (have hRR : RR (w pa) z (w 12 0) (w 12 1) p n D = (p, n, D) := by
               rw [RR_at hp0 hz60.2 (by omega), if_neg (by rw [hbA (by omega)]; omega), if_pos (Or.inr (by omega))]
             rw [hRR]
             exact ⟨by rw [hp1], hS, h2, by omega, by rw [h2]; exact hD⟩)
        · skip
          refine wp_bipush (a := -9) (pc' := 85) rfl rfl rfl ?_
          refine wp_goto (pc' := 92) rfl rfl ?_
          refine wp_ret rfl rfl rfl ?_
          first
          | (exfalso; omega)
          | (have hRR : RR (w pa) z (w 12 0) (w 12 1) p n D = (endR z n, n, D) := RR_end (by omega)
             rw [hRR]
             exact ⟨by unfold endR; first | rw [if_pos (by omega), hp1, show p = z by omega] | rw [if_neg (by omega)], hS, h2, by omega, by rw [h2]; exact hD⟩)
          | (have hRR : RR (w pa) z (w 12 0) (w 12 1) p n D = (p, n, D) := by
               rw [RR_at hp0 hz60.2 (by omega), if_neg (by rw [hbA (by omega)]; omega), if_pos (Or.inr (by omega))]
             rw [hRR]
             exact ⟨by rw [hp1], hS, h2, by omega, by rw [h2]; exact hD⟩)
      · skip
        rw [hv1, hw9]
        clear hv1 hw9 v1 w9
        rw [hp1] at hat
        dsimp only [Option.toList, List.cons_append, List.nil_append, List.append_nil]
        refine wp_if_eq (pc' := 76) (pt := 88) rfl rfl rfl (fun q_4 => ?_) (fun q_4 => absurd (by decide) q_4)
        refine wp_aload_n (pc' := 89) rfl rfl rfl (by omega) ?_
        refine wp_getI (ci := 6) (k0 := 1) (pc' := 92) rfl rfl (by decide) (by first | assumption | rfl) ?_
        refine wp_ret rfl rfl rfl ?_
        first
        | (exfalso; omega)
        | (have hRR : RR (w pa) z (w 12 0) (w 12 1) p n D = (endR z n, n, D) := RR_end (by omega)
           rw [hRR]
           exact ⟨by unfold endR; first | rw [if_pos (by omega), hp1, show p = z by omega] | rw [if_neg (by omega)], hS, h2, by omega, by rw [h2]; exact hD⟩)
        | (have hRR : RR (w pa) z (w 12 0) (w 12 1) p n D = (p, n, D) := by
             rw [RR_at hp0 hz60.2 (by omega), if_neg (by rw [hbA (by omega)]; omega), if_pos (Or.inr (by omega))]
           rw [hRR]
           exact ⟨by rw [hp1], hS, h2, by omega, by rw [h2]; exact hD⟩)
    · skip
      exfalso; omega
  | succ k ih =>
    intro n p D w1 hn0 hnk hp0 hpz hnb hS h2 hp1 hD
    have hT := hT0.sameF hS (by decide)
    have hz60 := hR0.2.2.2.1
    have hpa9 := hR0.2.2.2.2.2.2
    have hs9 := hR0.2.2.2.2.2.1
    have e120 : w1 12 0 = w 12 0 := hS 12 0 (by decide) (by decide)
    have e121 : w1 12 1 = w 12 1 := hS 12 1 (by decide) (by decide)
    have hr1 : ROw w1 := by
      unfold ROw
      rw [hS.cell (-3) (by decide) (by decide), hS.cell (-4) (by decide) (by decide), hS.cell (-5) (by decide) (by decide)]
      exact hr0
    have epa : w1 pa = w pa := hS.cell pa (by simp; omega) (by simp [KF]; omega)
    have es : w1 s = w s := hS.cell s (by simp; omega) (by simp [KF]; omega)
    have hR1 : Rd w1 s pa z := by
      obtain ⟨h1, ⟨a1, a2, a3, a4, a5, a6, a7⟩, h3, h4, h5, h6, h7⟩ := hR0
      exact ⟨by rw [hS 22 0 (by decide) (by decide)]; exact h1, ⟨a1, a2, by rw [es]; exact a3, a4, a5, a6, a7⟩, by rw [es]; exact h3, h4, by rw [epa]; exact h5, h6, h7⟩
    have hid : up w1 22 1 p = w1 := by rw [← hp1]; exact up_id w1 22 1
    have hbA : p < z → bA (w pa) z p = w pa p := fun h => if_pos h
    refine wp_iload_n (pc' := 34) rfl rfl rfl ?_
    refine wp_bipush (a := 6) (pc' := 36) rfl rfl rfl ?_
    refine wp_icmp_ge (pc' := 39) (pt := 69) rfl rfl rfl (fun q_1 => ?_) (fun q_1 => ?_)
    · skip
      refine wp_aload_n (pc' := 70) rfl rfl rfl (by omega) ?_
      refine wp_call (pc' := 73) rfl rfl rfl rfl rfl ⟨Nat.le_of_ble_eq_true rfl, Nat.le_of_ble_eq_true rfl, Nat.le_of_ble_eq_true rfl, Nat.le_of_ble_eq_true rfl, Nat.le_of_ble_eq_true rfl⟩ rfl (c_Rd_atEnd hR1) ?_
      rintro v1 w9 ⟨hw9, ⟨hv1, hat⟩ | ⟨hv1, hat⟩⟩
      · skip
        rw [hv1, hw9]
        clear hv1 hw9 v1 w9
        rw [hp1] at hat
        dsimp only [Option.toList, List.cons_append, List.nil_append, List.append_nil]
        refine wp_if_eq (pc' := 76) (pt := 88) rfl rfl rfl (fun q_2 => absurd q_2 (by decide)) (fun q_2 => ?_)
        refine wp_aload_n (pc' := 77) rfl rfl rfl (by decide) ?_
        refine wp_getI (ci := 3) (k0 := 2) (pc' := 80) rfl rfl (by decide) (by first | assumption | rfl) ?_
        refine wp_if_le (pc' := 83) (pt := 88) rfl rfl rfl (fun q_3 => ?_) (fun q_3 => ?_)
        · skip
          refine wp_aload_n (pc' := 89) rfl rfl rfl (by omega) ?_
          refine wp_getI (ci := 6) (k0 := 1) (pc' := 92) rfl rfl (by decide) (by first | assumption | rfl) ?_
          refine wp_ret rfl rfl rfl ?_
          first
          | (exfalso; omega)
          | (have hRR : RR (w pa) z (w 12 0) (w 12 1) p n D = (endR z n, n, D) := RR_end (by omega)
             rw [hRR]
             exact ⟨by unfold endR; first | rw [if_pos (by omega), hp1, show p = z by omega] | rw [if_neg (by omega)], hS, h2, by omega, by rw [h2]; exact hD⟩)
          | (have hRR : RR (w pa) z (w 12 0) (w 12 1) p n D = (p, n, D) := by
               rw [RR_at hp0 hz60.2 (by omega), if_neg (by rw [hbA (by omega)]; omega), if_pos (Or.inr (by omega))]
             rw [hRR]
             exact ⟨by rw [hp1], hS, h2, by omega, by rw [h2]; exact hD⟩)
        · skip
          refine wp_bipush (a := -9) (pc' := 85) rfl rfl rfl ?_
          refine wp_goto (pc' := 92) rfl rfl ?_
          refine wp_ret rfl rfl rfl ?_
          first
          | (exfalso; omega)
          | (have hRR : RR (w pa) z (w 12 0) (w 12 1) p n D = (endR z n, n, D) := RR_end (by omega)
             rw [hRR]
             exact ⟨by unfold endR; first | rw [if_pos (by omega), hp1, show p = z by omega] | rw [if_neg (by omega)], hS, h2, by omega, by rw [h2]; exact hD⟩)
          | (have hRR : RR (w pa) z (w 12 0) (w 12 1) p n D = (p, n, D) := by
               rw [RR_at hp0 hz60.2 (by omega), if_neg (by rw [hbA (by omega)]; omega), if_pos (Or.inr (by omega))]
             rw [hRR]
             exact ⟨by rw [hp1], hS, h2, by omega, by rw [h2]; exact hD⟩)
      · skip
        rw [hv1, hw9]
        clear hv1 hw9 v1 w9
        rw [hp1] at hat
        dsimp only [Option.toList, List.cons_append, List.nil_append, List.append_nil]
        refine wp_if_eq (pc' := 76) (pt := 88) rfl rfl rfl (fun q_4 => ?_) (fun q_4 => absurd (by decide) q_4)
        refine wp_aload_n (pc' := 89) rfl rfl rfl (by omega) ?_
        refine wp_getI (ci := 6) (k0 := 1) (pc' := 92) rfl rfl (by decide) (by first | assumption | rfl) ?_
        refine wp_ret rfl rfl rfl ?_
        first
        | (exfalso; omega)
        | (have hRR : RR (w pa) z (w 12 0) (w 12 1) p n D = (endR z n, n, D) := RR_end (by omega)
           rw [hRR]
           exact ⟨by unfold endR; first | rw [if_pos (by omega), hp1, show p = z by omega] | rw [if_neg (by omega)], hS, h2, by omega, by rw [h2]; exact hD⟩)
        | (have hRR : RR (w pa) z (w 12 0) (w 12 1) p n D = (p, n, D) := by
             rw [RR_at hp0 hz60.2 (by omega), if_neg (by rw [hbA (by omega)]; omega), if_pos (Or.inr (by omega))]
           rw [hRR]
           exact ⟨by rw [hp1], hS, h2, by omega, by rw [h2]; exact hD⟩)
    · skip
      refine wp_aload_n (pc' := 40) rfl rfl rfl (by omega) ?_
      refine wp_call (pc' := 43) rfl rfl rfl rfl rfl ⟨Nat.le_of_ble_eq_true rfl, Nat.le_of_ble_eq_true rfl, Nat.le_of_ble_eq_true rfl, Nat.le_of_ble_eq_true rfl, Nat.le_of_ble_eq_true rfl⟩ rfl (c_Rd_atEnd hR1) ?_
      rintro v1 w9 ⟨hw9, ⟨hv1, hat⟩ | ⟨hv1, hat⟩⟩
      · skip
        rw [hv1, hw9]
        clear hv1 hw9 v1 w9
        rw [hp1] at hat
        dsimp only [Option.toList, List.cons_append, List.nil_append, List.append_nil]
        refine wp_if_ne (pc' := 46) (pt := 69) rfl rfl rfl (fun q_5 => ?_) (fun q_5 => absurd (by decide) q_5)
        refine wp_aload_n (pc' := 70) rfl rfl rfl (by omega) ?_
        refine wp_call (pc' := 73) rfl rfl rfl rfl rfl ⟨Nat.le_of_ble_eq_true rfl, Nat.le_of_ble_eq_true rfl, Nat.le_of_ble_eq_true rfl, Nat.le_of_ble_eq_true rfl, Nat.le_of_ble_eq_true rfl⟩ rfl (c_Rd_atEnd hR1) ?_
        rintro v1 w9 ⟨hw9, ⟨hv1, hat⟩ | ⟨hv1, hat⟩⟩
        · skip
          rw [hv1, hw9]
          clear hv1 hw9 v1 w9
          rw [hp1] at hat
          dsimp only [Option.toList, List.cons_append, List.nil_append, List.append_nil]
          refine wp_if_eq (pc' := 76) (pt := 88) rfl rfl rfl (fun q_6 => absurd q_6 (by decide)) (fun q_6 => ?_)
          refine wp_aload_n (pc' := 77) rfl rfl rfl (by decide) ?_
          refine wp_getI (ci := 3) (k0 := 2) (pc' := 80) rfl rfl (by decide) (by first | assumption | rfl) ?_
          refine wp_if_le (pc' := 83) (pt := 88) rfl rfl rfl (fun q_7 => ?_) (fun q_7 => ?_)
          · skip
            refine wp_aload_n (pc' := 89) rfl rfl rfl (by omega) ?_
            refine wp_getI (ci := 6) (k0 := 1) (pc' := 92) rfl rfl (by decide) (by first | assumption | rfl) ?_
            refine wp_ret rfl rfl rfl ?_
            first
            | (exfalso; omega)
            | (have hRR : RR (w pa) z (w 12 0) (w 12 1) p n D = (endR z n, n, D) := RR_end (by omega)
               rw [hRR]
               exact ⟨by unfold endR; first | rw [if_pos (by omega), hp1, show p = z by omega] | rw [if_neg (by omega)], hS, h2, by omega, by rw [h2]; exact hD⟩)
            | (have hRR : RR (w pa) z (w 12 0) (w 12 1) p n D = (p, n, D) := by
                 rw [RR_at hp0 hz60.2 (by omega), if_neg (by rw [hbA (by omega)]; omega), if_pos (Or.inr (by omega))]
               rw [hRR]
               exact ⟨by rw [hp1], hS, h2, by omega, by rw [h2]; exact hD⟩)
          · skip
            refine wp_bipush (a := -9) (pc' := 85) rfl rfl rfl ?_
            refine wp_goto (pc' := 92) rfl rfl ?_
            refine wp_ret rfl rfl rfl ?_
            first
            | (exfalso; omega)
            | (have hRR : RR (w pa) z (w 12 0) (w 12 1) p n D = (endR z n, n, D) := RR_end (by omega)
               rw [hRR]
               exact ⟨by unfold endR; first | rw [if_pos (by omega), hp1, show p = z by omega] | rw [if_neg (by omega)], hS, h2, by omega, by rw [h2]; exact hD⟩)
            | (have hRR : RR (w pa) z (w 12 0) (w 12 1) p n D = (p, n, D) := by
                 rw [RR_at hp0 hz60.2 (by omega), if_neg (by rw [hbA (by omega)]; omega), if_pos (Or.inr (by omega))]
               rw [hRR]
               exact ⟨by rw [hp1], hS, h2, by omega, by rw [h2]; exact hD⟩)
        · skip
          rw [hv1, hw9]
          clear hv1 hw9 v1 w9
          rw [hp1] at hat
          dsimp only [Option.toList, List.cons_append, List.nil_append, List.append_nil]
          refine wp_if_eq (pc' := 76) (pt := 88) rfl rfl rfl (fun q_8 => ?_) (fun q_8 => absurd (by decide) q_8)
          refine wp_aload_n (pc' := 89) rfl rfl rfl (by omega) ?_
          refine wp_getI (ci := 6) (k0 := 1) (pc' := 92) rfl rfl (by decide) (by first | assumption | rfl) ?_
          refine wp_ret rfl rfl rfl ?_
          first
          | (exfalso; omega)
          | (have hRR : RR (w pa) z (w 12 0) (w 12 1) p n D = (endR z n, n, D) := RR_end (by omega)
             rw [hRR]
             exact ⟨by unfold endR; first | rw [if_pos (by omega), hp1, show p = z by omega] | rw [if_neg (by omega)], hS, h2, by omega, by rw [h2]; exact hD⟩)
          | (have hRR : RR (w pa) z (w 12 0) (w 12 1) p n D = (p, n, D) := by
               rw [RR_at hp0 hz60.2 (by omega), if_neg (by rw [hbA (by omega)]; omega), if_pos (Or.inr (by omega))]
             rw [hRR]
             exact ⟨by rw [hp1], hS, h2, by omega, by rw [h2]; exact hD⟩)
      · skip
        rw [hv1, hw9]
        clear hv1 hw9 v1 w9
        rw [hp1] at hat
        dsimp only [Option.toList, List.cons_append, List.nil_append, List.append_nil]
        refine wp_if_ne (pc' := 46) (pt := 69) rfl rfl rfl (fun q_9 => absurd q_9 (by decide)) (fun q_9 => ?_)
        rw [← hid]
        refine wp_aload_n (pc' := 47) rfl rfl rfl (by omega) ?_
        refine wp_aload_n (pc' := 48) rfl rfl rfl (by decide) ?_
        refine wp_call (pc' := 51) rfl rfl rfl rfl rfl ⟨Nat.le_of_ble_eq_true rfl, Nat.le_of_ble_eq_true rfl, Nat.le_of_ble_eq_true rfl, Nat.le_of_ble_eq_true rfl, Nat.le_of_ble_eq_true rfl⟩ rfl (c_Rd_one hT hr1 hR1 ⟨hp0, hpz⟩ (by rw [e120, e121]; exact hc) (by omega)) ?_
        rintro v1 w2 (⟨hv1, hlt, hw2⟩ | ⟨hv1, heq, hle, hk0, hb1, hb2, hb3, hw2⟩)
        · skip
          rw [hv1]
          clear hv1 v1
          rw [epa, e120, e121] at hlt hw2
          dsimp only [Option.toList, List.cons_append, List.nil_append, List.append_nil]
          refine wp_if_ne (pc' := 54) (pt := 59) rfl rfl rfl (fun q_10 => absurd q_10 (by decide)) (fun q_10 => ?_)
          refine wp_aload_n (pc' := 55) rfl rfl rfl (by omega) ?_
          refine wp_getI (ci := 6) (k0 := 1) (pc' := 58) rfl rfl (by decide) (by first | assumption | rfl) ?_
          refine wp_ret rfl rfl rfl ?_
          have hpz2 : p < z := by omega
          have hRR : RR (w pa) z (w 12 0) (w 12 1) p n D = (oE (w pa) z (w 12 0) (w 12 1) p, n, D) := by
            rw [RR_at hp0 hz60.2 hpz2, if_neg (by rw [hbA hpz2]; omega)]
            by_cases hk : kd (bA (w pa) z p) = -1 ∨ n = 6
            · rw [if_pos hk]
              rcases hk with hk | hk
              · have : oE (w pa) z (w 12 0) (w 12 1) p = p := by unfold oE; rw [if_pos hk]
                rw [this]
              · exfalso; omega
            · rw [if_neg hk, if_pos hlt]
          rw [hRR, hw2]
          refine ⟨by rw [up_eq], hS.put (Or.inr (by decide)), by rw [up_ne (by decide)]; exact h2, by rw [up_ne (by decide)]; omega, ?_⟩
          rw [up_ne (show (12 : Int) ≠ 22 by decide), h2]
          intro j j0 j1
          rw [up_ne (show (13 : Int) ≠ 22 by decide), up_ne (show (14 : Int) ≠ 22 by decide), up_ne (show (15 : Int) ≠ 22 by decide)]
          exact hD j j0 j1
        · skip
          rw [hv1]
          clear hv1 v1
          rw [epa, e120, e121] at heq
          rw [epa, e120] at hb1
          rw [epa, e121] at hb2
          rw [epa] at hk0 hb3
          rw [epa, e120, e121, h2] at hw2
          dsimp only [Option.toList, List.cons_append, List.nil_append, List.append_nil]
          refine wp_if_ne (pc' := 54) (pt := 59) rfl rfl rfl (fun q_11 => ?_) (fun q_11 => absurd (by decide) q_11)
          obtain ⟨w2', hw2'⟩ : ∃ x, x = up (up (up (up w1 13 n (kd (bA (w pa) z p))) 14 n (w 12 0 * fg (w pa) z (p + 2) 0 (w 12 1 - 1) + fg (w pa) z (p + 1) 0 (w 12 0 - 1))) 15 n (fg (w pa) z (p + 3) 1 9)) 12 2 (n + 1) := ⟨_, rfl⟩
          have hw2e : w2 = up w2' 22 1 (p + 4) := by
            rw [hw2, hw2']
            funext a b
            unfold up
            by_cases h22 : a = 22 ∧ b = 1
            · obtain ⟨rfl, rfl⟩ := h22
              simp
            · simp only [h22, if_false]
          rw [hw2e]
          have hR2 : Rd w2' s pa z := by rw [hw2']; exact (((hR1.put (by omega)).put (by omega)).put (by omega)).put (by omega)
          have epa2 : w2' pa = w pa := by rw [hw2', up_ne (by omega), up_ne (by omega), up_ne (by omega), up_ne (by omega)]; exact epa
          refine wp_aload_n (pc' := 60) rfl rfl rfl (by omega) ?_
          refine wp_call (pc' := 63) rfl rfl rfl rfl rfl ⟨Nat.le_of_ble_eq_true rfl, Nat.le_of_ble_eq_true rfl, Nat.le_of_ble_eq_true rfl, Nat.le_of_ble_eq_true rfl, Nat.le_of_ble_eq_true rfl⟩ rfl (c_Rd_skipP hR2 (by omega)) ?_
          rintro v1 w3 ⟨hv1, q, hw3, hq1, hq2, hq3, hq4⟩
          rw [hv1]
          clear hv1 v1
          dsimp only [Option.toList, List.cons_append, List.nil_append, List.append_nil]
          refine wp_iinc (pc' := 66) rfl rfl rfl (inc_id (by omega) (by omega)) rfl ?_
          dsimp only [lset, lset2, List.set, List.getElem?_cons_zero, List.getElem?_cons_succ]
          refine wp_goto (pc' := 33) rfl rfl ?_
          rw [epa2] at hq3 hq4
          rw [hw2'] at hw3
          have hpz2 : p < z := by omega
          obtain ⟨D2, hD2⟩ : ∃ D2 : Int → Int × Int × Int × Int, D2 = fun j => if j = n then (kd (bA (w pa) z p), fg (w pa) z (p + 1) 0 (w 12 0 - 1), fg (w pa) z (p + 2) 0 (w 12 1 - 1), fg (w pa) z (p + 3) 1 9) else D j := ⟨_, rfl⟩
          have hRR : RR (w pa) z (w 12 0) (w 12 1) p n D = RR (w pa) z (w 12 0) (w 12 1) q (n + 1) D2 := by
            rw [RR_at hp0 hz60.2 hpz2, if_neg (by rw [hbA hpz2]; omega), if_neg (fun h => by rcases h with h | h; exact hk0 h; omega), if_neg (by omega), ← hD2]
            exact RR_skip hz60.2 hq2 (q - (p + 4)).toNat (p + 4) (by omega) (by omega) hq3
          rw [hRR]
          refine ih (n + 1) q D2 w3 (by omega) (by omega) (by omega) hq2 hq4 ?_ ?_ ?_ (fun j j0 j1 => ?_)
          · rw [hw3]
            exact ((((hS.put (Or.inl (by decide))).put (Or.inl (by decide))).put (Or.inl (by decide))).put (Or.inr (by decide))).put (Or.inr (by decide))
          · rw [hw3, up_ne (by decide), up_eq]
          · rw [hw3, up_eq]
          · have hkk := kd_in (bA (w pa) z p)
            by_cases hj : j = n
            · have hd : D2 j = (kd (bA (w pa) z p), fg (w pa) z (p + 1) 0 (w 12 0 - 1), fg (w pa) z (p + 2) 0 (w 12 1 - 1), fg (w pa) z (p + 3) 1 9) := by rw [hD2]; exact if_pos hj
              rw [hd, hj, hw3, up_ne (show (13 : Int) ≠ 22 by decide), up_ne (show (13 : Int) ≠ 12 by decide), up_ne (show (13 : Int) ≠ 15 by decide), up_ne (show (13 : Int) ≠ 14 by decide), up_eq, up_ne (show (14 : Int) ≠ 22 by decide), up_ne (show (14 : Int) ≠ 12 by decide), up_ne (show (14 : Int) ≠ 15 by decide), up_eq, up_ne (show (15 : Int) ≠ 22 by decide), up_ne (show (15 : Int) ≠ 12 by decide), up_eq]
              exact ⟨rfl, rfl, rfl, by omega, hb1, hb2, hb3⟩
            · have hd : D2 j = D j := by rw [hD2]; exact if_neg hj
              rw [hd, hw3, up_ne (show (13 : Int) ≠ 22 by decide), up_ne (show (13 : Int) ≠ 12 by decide), up_ne (show (13 : Int) ≠ 15 by decide), up_ne (show (13 : Int) ≠ 14 by decide), up_at hj, up_ne (show (14 : Int) ≠ 22 by decide), up_ne (show (14 : Int) ≠ 12 by decide), up_ne (show (14 : Int) ≠ 15 by decide), up_at hj, up_ne (show (14 : Int) ≠ 13 by decide), up_ne (show (15 : Int) ≠ 22 by decide), up_ne (show (15 : Int) ≠ 12 by decide), up_at hj, up_ne (show (15 : Int) ≠ 14 by decide), up_ne (show (15 : Int) ≠ 13 by decide)]
              exact hD j j0 (by omega)
