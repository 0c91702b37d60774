/-! land: what is left of the invariant -/
theorem rn_neg {T : Int → Int} {z c l : Int} (hz : 0 ≤ z) : ∀ (k : Nat) (p n : Int) (D : Int → Int × Int × Int × Int), 0 ≤ p → 0 ≤ n → (rn T z c l k p n D).1 = -9 → (rn T z c l k p n D).2.1 ≠ 0 := by
  intro k
  induction k with
  | zero =>
    intro p n D hp hn h hz0
    have h1 : endR z n = -9 := h
    have h2 : n = 0 := hz0
    unfold endR at h1
    rw [if_pos h2] at h1
    omega
  | succ k ih =>
    intro p n D hp hn h
    unfold rn at h ⊢
    by_cases h1 : z ≤ p
    · rw [if_pos h1] at h ⊢
      intro h2
      have h3 : endR z n = -9 := h
      have h4 : n = 0 := h2
      unfold endR at h3
      rw [if_pos h4] at h3
      omega
    · rw [if_neg h1] at h ⊢
      by_cases h2 : bA T z p = 32
      · rw [if_pos h2] at h ⊢
        exact ih (p + 1) n D (by omega) hn h
      · rw [if_neg h2] at h ⊢
        by_cases h3 : kd (bA T z p) = -1 ∨ n = 6
        · rw [if_pos h3] at h
          have h4 : p = -9 := h
          omega
        · rw [if_neg h3] at h ⊢
          by_cases h4 : oE T z c l p < p + 4
          · rw [if_pos h4] at h
            have h5 : oE T z c l p = -9 := h
            exfalso
            unfold oE at h5
            (repeat' split at h5) <;> omega
          · rw [if_neg h4] at h ⊢
            exact ih (p + 4) (n + 1) _ (by omega) (by omega) h
theorem cel_of {c l x y : Int} (hc : 3 ≤ c ∧ c ≤ 5) (hx : 0 ≤ x ∧ x ≤ c - 1) (hy : 0 ≤ y ∧ y ≤ l - 1) : Cel c l (c * y + x) := by
  have h1 : 0 ≤ c * y := Int.mul_nonneg (by omega) hy.1
  have h2 : c * y ≤ c * (l - 1) := Int.mul_le_mul_of_nonneg_left hy.2 (by omega)
  rw [Int.mul_sub, Int.mul_one] at h2
  exact ⟨by omega, by omega⟩
theorem land_end {w w' : Hp} {c l n h3 h4 : Int} {D : Int → Int × Int × Int × Int} (hI : Inv w) (hs : SameF w w' LL FL) (ht : w' 0 14 = w' 100 2) (hc : 3 ≤ c ∧ c ≤ 5) (hl : 3 ≤ l ∧ l ≤ 5) (hn : 1 ≤ n ∧ n ≤ 6) (hh3 : 0 ≤ h3 ∧ h3 ≤ c - 1) (hh4 : 0 ≤ h4 ∧ h4 ≤ l - 1)
    (hX : w' 3 0 = c ∧ w' 3 1 = l ∧ w' 3 2 = n ∧ w' 3 3 = c * h4 + h3 ∧ w' 3 4 = 0 ∧ w' 3 5 = 0 ∧ w' 3 6 = 0)
    (hD : ∀ i : Int, 0 ≤ i → i < n → (0 ≤ (D i).1 ∧ (D i).1 ≤ 5) ∧ (0 ≤ (D i).2.1 ∧ (D i).2.1 ≤ c - 1) ∧ (0 ≤ (D i).2.2.1 ∧ (D i).2.2.1 ≤ l - 1) ∧ (1 ≤ (D i).2.2.2 ∧ (D i).2.2.2 ≤ 9))
    (hXi : ∀ i : Int, 0 ≤ i → i < n → w' 4 i = (D i).1 ∧ w' 5 i = c * (D i).2.2.1 + (D i).2.1 ∧ w' 6 i = (D i).2.2.2)
    (hM : w' 100 10 = n ∧ w' 100 11 = c ∧ w' 100 12 = l ∧ w' 100 23 = 0 ∧ w' 109 0 = c * h4 + h3 ∧ w' 109 1 = 0 ∧ w' 109 2 = 0)
    (hMi : ∀ i : Int, 0 ≤ i → i < n → w' 107 i = (D i).1 ∧ w' 109 (3 + i) = c * (D i).2.2.1 + (D i).2.1 ∧ w' 108 i = (D i).2.2.2)
    (hK : ∀ k : Int, 0 ≤ k → k < 3 → w' 115 k = 0 ∧ w' (73 + 9 * k) 0 = 0) : Inv w' := by
  obtain ⟨x0, x1, x2, x3, x4, x5, x6⟩ := hX
  obtain ⟨m10, m11, m12, m23, m0, m1, m2⟩ := hM
  have hMd : MdOK w' := by
    refine ⟨by rw [m11, m12]; exact ⟨hc.1, hc.2, hl.1, hl.2⟩, by rw [m10]; exact hn, fun i a b => ?_⟩
    rw [m10] at b
    obtain ⟨d1, d2, d3, d4⟩ := hD i a b
    obtain ⟨q1, q2, q3⟩ := hMi i a b
    rw [m11, m12, q1, q2, q3]
    exact ⟨d1, cel_of hc d2 d3, d4⟩
  refine hI.land0 hs ht (Or.inr ⟨hMd, ?_⟩) (fun k a b => Or.inl (hK k a b))
  rw [m23]
  refine ⟨⟨by rw [x0, m11], by rw [x1, m12], by rw [x2, m10], by rw [x3, m0], by rw [x4, m1], by rw [x5, m2], x6⟩, by decide, by rw [m11, m12, m0]; exact cel_of hc hh3 hh4, by rw [m1]; decide, by rw [m2]; decide, fun i a b => ?_, fun e a b => absurd b (by omega)⟩
  rw [m10] at b
  obtain ⟨d1, d2, d3, d4⟩ := hD i a b
  obtain ⟨q1, q2, q3⟩ := hMi i a b
  obtain ⟨p1, p2, p3⟩ := hXi i a b
  rw [show (3 : Int) + 1 = 4 from rfl, show (3 : Int) + 2 = 5 from rfl, show (3 : Int) + 3 = 6 from rfl, p1, p2, p3, q1, q2, q3, m11, m12]
  exact ⟨rfl, rfl, rfl, cel_of hc d2 d3⟩
def KFL : List (Int × Int) := [(73, 0), (73, 1), (73, 2), (73, 3), (73, 4), (73, 5), (73, 6), (82, 0), (82, 1), (82, 2), (82, 3), (82, 4), (82, 5), (82, 6), (91, 0), (91, 1), (91, 2), (91, 3), (91, 4), (91, 5), (91, 6)]
set_option maxRecDepth 20000 in
set_option maxHeartbeats 4000000 in
theorem l_clears {w : Hp} {d : Nat} {t : Int} {Q : Option PV → Hp → Prop} (hT0 : Stc w) (K : ∀ w1 : Hp, SameF w w1 [] KFL → (∀ j : Int, 0 ≤ j → j < 3 → w1 (73 + 9 * j) 0 = 0) → WP SH (d + 1) 89 85 [some (vR 0), some (vI t), some (vI 3)] [] w1 Q) : ∀ (k : Nat) (y : Int) (w1 : Hp), 0 ≤ y → y + k = 3 → SameF w w1 [] KFL → (∀ j : Int, 0 ≤ j → j < y → w1 (73 + 9 * j) 0 = 0) → WP SH (d + 1) 89 65 [some (vR 0), some (vI t), some (vI y)] [] w1 Q := by
  intro k
  induction k with
  | zero =>
    intro y w1 h0 hyk hS hz
    have hT := hT0.sameF hS (by decide)
    refine wp_iload_n (pc' := 66) rfl rfl rfl ?_
    refine wp_iconst (a := 3) (pc' := 67) rfl rfl rfl ?_
    refine wp_icmp_ge (pc' := 70) (pt := 85) rfl rfl rfl (fun q_1 => ?_) (fun q_1 => ?_)
    · skip
      obtain rfl : y = 3 := by omega
      exact K w1 hS hz
    · skip
      exfalso; omega
  | succ k ih =>
    intro y w1 h0 hyk hS hz
    have hT := hT0.sameF hS (by decide)
    refine wp_iload_n (pc' := 66) rfl rfl rfl ?_
    refine wp_iconst (a := 3) (pc' := 67) rfl rfl rfl ?_
    refine wp_icmp_ge (pc' := 70) (pt := 85) rfl rfl rfl (fun q_1 => ?_) (fun q_1 => ?_)
    · skip
      exfalso; omega
    · skip
      refine wp_aload_n (pc' := 71) rfl rfl rfl (by decide) ?_
      refine wp_getR (r' := 21) (ci := 9) (k0 := 4) (pc' := 74) rfl rfl (by decide) (by first | assumption | rfl) (hT.get 4 rfl) ?_
      refine wp_iload_n (pc' := 75) rfl rfl rfl ?_
      refine wp_aaload (r' := 73 + 9 * y) (pc' := 76) rfl rfl (by first | assumption | rfl) rfl (by omega) ((land_kept hT h0 (by omega)).2) ?_
      refine wp_call (pc' := 79) rfl rfl rfl rfl rfl ⟨Nat.le_of_ble_eq_true rfl, Nat.le_of_ble_eq_true rfl, Nat.le_of_ble_eq_true rfl, Nat.le_of_ble_eq_true rfl, Nat.le_of_ble_eq_true rfl⟩ (by have hk7 : y = 0 ∨ y = 1 ∨ y = 2 := (by omega); rcases hk7 with rfl | rfl | rfl <;> rfl) (c_Land_clear_s (land_kept hT h0 (by omega)).1) ?_
      rintro v1 w2 ⟨hv1, hS2, hz2⟩
      rw [hv1]
      clear hv1 v1
      dsimp only [Option.toList, List.cons_append, List.nil_append, List.append_nil]
      refine wp_iinc (pc' := 82) rfl rfl rfl (inc_id (by omega) (by omega)) rfl ?_
      dsimp only [lset, lset2, List.set, List.getElem?_cons_zero, List.getElem?_cons_succ]
      refine wp_goto (pc' := 65) rfl rfl ?_
      refine ih (y + 1) w2 (by omega) (by omega) (hS.tr (hS2.mono (fun r hr => hr) (fun q hq => Or.inl ?_))) (fun j j0 j1 => ?_)
      · have hy : y = 0 ∨ y = 1 ∨ y = 2 := by omega
        simp at hq
        rcases hy with rfl | rfl | rfl <;> rcases hq with rfl | rfl | rfl | rfl | rfl | rfl | rfl <;> decide
      · by_cases hj : j = y
        · rw [hj]
          exact hz2 0 (by decide) (by decide)
        · rw [hS2 (73 + 9 * j) 0 (by simp) (by simp; omega)]
          exact hz j j0 (by omega)
set_option maxRecDepth 20000 in
set_option maxHeartbeats 4000000 in
theorem l_Mland1 {w : Hp} {d : Nat} {t : Int} {Q : Option PV → Hp → Prop} (hT0 : Stc w) (K : ∀ w1 : Hp, Same w w1 [109] → (∀ j : Int, 0 ≤ j → j < 9 → w1 109 j = 0) → WP SH d 166 86 [some (vR 100), some (vI t), some (vI 9)] [] w1 Q) : ∀ (k : Nat) (y : Int) (w1 : Hp), 0 ≤ y → y + k = 9 → Same w w1 [109] → (∀ j : Int, 0 ≤ j → j < y → w1 109 j = 0) → WP SH d 166 67 [some (vR 100), some (vI t), some (vI y)] [] w1 Q := by
  intro k
  induction k with
  | zero =>
    intro y w1 h0 hyk hS hz
    have hT := hT0.same hS (by decide)
    refine wp_iload_n (pc' := 68) rfl rfl rfl ?_
    refine wp_bipush (a := 9) (pc' := 70) rfl rfl rfl ?_
    refine wp_icmp_ge (pc' := 73) (pt := 86) rfl rfl rfl (fun q_1 => ?_) (fun q_1 => ?_)
    · skip
      obtain rfl : y = 9 := by omega
      exact K w1 hS hz
    · skip
      exfalso; omega
  | succ k ih =>
    intro y w1 h0 hyk hS hz
    have hT := hT0.same hS (by decide)
    refine wp_iload_n (pc' := 68) rfl rfl rfl ?_
    refine wp_bipush (a := 9) (pc' := 70) rfl rfl rfl ?_
    refine wp_icmp_ge (pc' := 73) (pt := 86) rfl rfl rfl (fun q_1 => ?_) (fun q_1 => ?_)
    · skip
      exfalso; omega
    · skip
      refine wp_aload_n (pc' := 74) rfl rfl rfl (by decide) ?_
      refine wp_getR (r' := 109) (ci := 10) (k0 := 15) (pc' := 77) rfl rfl (by decide) (by first | assumption | rfl) (hT.get 107 rfl) ?_
      refine wp_iload_n (pc' := 78) rfl rfl rfl ?_
      refine wp_iconst (a := 0) (pc' := 79) rfl rfl rfl ?_
      refine wp_iastore (pc' := 80) rfl rfl (by first | assumption | rfl) (by omega) ?_
      refine wp_iinc (pc' := 83) rfl rfl rfl (inc_id (by omega) (by omega)) rfl ?_
      dsimp only [lset, lset2, List.set, List.getElem?_cons_zero, List.getElem?_cons_succ]
      refine wp_goto (pc' := 67) rfl rfl ?_
      refine ih (y + 1) _ (by omega) (by omega) (hS.put (by decide)) (fun j j0 j1 => ?_)
      by_cases hj : j = y
      · rw [hj, up_eq]
      · rw [up_at hj]
        exact hz j j0 (by omega)
set_option maxRecDepth 20000 in
set_option maxHeartbeats 4000000 in
theorem l_Mland3 {w : Hp} {d : Nat} {t : Int} {Q : Option PV → Hp → Prop} (hT0 : Stc w) (K : ∀ w1 : Hp, Same w w1 [115] → (∀ j : Int, 0 ≤ j → j < 3 → w1 115 j = 0) → WP SH d 166 215 [some (vR 100), some (vI t), some (vI 3)] [] w1 Q) : ∀ (k : Nat) (y : Int) (w1 : Hp), 0 ≤ y → y + k = 3 → Same w w1 [115] → (∀ j : Int, 0 ≤ j → j < y → w1 115 j = 0) → WP SH d 166 197 [some (vR 100), some (vI t), some (vI y)] [] w1 Q := by
  intro k
  induction k with
  | zero =>
    intro y w1 h0 hyk hS hz
    have hT := hT0.same hS (by decide)
    refine wp_iload_n (pc' := 198) rfl rfl rfl ?_
    refine wp_iconst (a := 3) (pc' := 199) rfl rfl rfl ?_
    refine wp_icmp_ge (pc' := 202) (pt := 215) rfl rfl rfl (fun q_1 => ?_) (fun q_1 => ?_)
    · skip
      obtain rfl : y = 3 := by omega
      exact K w1 hS hz
    · skip
      exfalso; omega
  | succ k ih =>
    intro y w1 h0 hyk hS hz
    have hT := hT0.same hS (by decide)
    refine wp_iload_n (pc' := 198) rfl rfl rfl ?_
    refine wp_iconst (a := 3) (pc' := 199) rfl rfl rfl ?_
    refine wp_icmp_ge (pc' := 202) (pt := 215) rfl rfl rfl (fun q_1 => ?_) (fun q_1 => ?_)
    · skip
      exfalso; omega
    · skip
      refine wp_aload_n (pc' := 203) rfl rfl rfl (by decide) ?_
      refine wp_getR (r' := 115) (ci := 10) (k0 := 25) (pc' := 206) rfl rfl (by decide) (by first | assumption | rfl) (hT.get 113 rfl) ?_
      refine wp_iload_n (pc' := 207) rfl rfl rfl ?_
      refine wp_iconst (a := 0) (pc' := 208) rfl rfl rfl ?_
      refine wp_bastoreZ (pc' := 209) rfl rfl rfl (by omega) (by omega) ?_
      refine wp_iinc (pc' := 212) rfl rfl rfl (inc_id (by omega) (by omega)) rfl ?_
      dsimp only [lset, lset2, List.set, List.getElem?_cons_zero, List.getElem?_cons_succ]
      refine wp_goto (pc' := 197) rfl rfl ?_
      refine ih (y + 1) _ (by omega) (by omega) (hS.put (by decide)) (fun j j0 j1 => ?_)
      by_cases hj : j = y
      · rw [hj, up_eq]
      · rw [up_at hj]
        exact hz j j0 (by omega)
