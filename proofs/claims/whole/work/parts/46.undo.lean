/-! undo -/
set_option maxRecDepth 20000 in
set_option maxHeartbeats 4000000 in
theorem l_undo {w : Hp} {d : Nat} {n : Int} {G : Int → Int} (hT0 : Stc w) (hn : 0 ≤ n) (h6 : w 3 2 ≤ 6) : ∀ (k : Nat) (e dd : Int) (w1 : Hp) (N1 : Int → Int), e = n + k → e ≤ 40 → dd = e - 1 → SameF w w1 [5] [(3, 3), (3, 4), (3, 5), (3, 6)] → (0 < k → LR w1 3 N1 G e) → WP SH (d + 1) 48 7 [some (vR 3), some (vI n), some (vI dd)] [] w1 (fun v w' => v = none ∧ SameF w w' [5] [(3, 3), (3, 4), (3, 5), (3, 6)] ∧ (k = 0 → w' = w1) ∧ (0 < k → LR w' 3 (fun j => G (9 * n + j)) G n)) := by
  intro k
  induction k with
  | zero =>
    intro e dd w1 N1 he he40 hdd hS hL
    have hT := hT0.sameF hS (by decide)
    have e32 : w1 3 2 = w 3 2 := hS 3 2 (by decide) (by decide)
    refine wp_iload_n (pc' := 8) rfl rfl rfl ?_
    refine wp_iload_n (pc' := 9) rfl rfl rfl ?_
    refine wp_icmp_lt (pc' := 12) (pt := 87) rfl rfl rfl (fun q_1 => ?_) (fun q_1 => ?_)
    · skip
      refine wp_ret rfl rfl rfl ?_
      refine ⟨rfl, hS, fun _ => rfl, fun hk => absurd hk (by omega)⟩
    · skip
      refine wp_iload_n (pc' := 13) rfl rfl rfl ?_
      refine wp_if_lt (pc' := 16) (pt := 87) rfl rfl rfl (fun q_2 => ?_) (fun q_2 => ?_)
      · skip
        refine wp_ret rfl rfl rfl ?_
        refine ⟨rfl, hS, fun _ => rfl, fun hk => absurd hk (by omega)⟩
      · skip
        exfalso; omega
  | succ k ih =>
    intro e dd w1 N1 he he40 hdd hS hL
    have hT := hT0.sameF hS (by decide)
    have e32 : w1 3 2 = w 3 2 := hS 3 2 (by decide) (by decide)
    refine wp_iload_n (pc' := 8) rfl rfl rfl ?_
    refine wp_iload_n (pc' := 9) rfl rfl rfl ?_
    refine wp_icmp_lt (pc' := 12) (pt := 87) rfl rfl rfl (fun q_1 => ?_) (fun q_1 => ?_)
    · skip
      exfalso; omega
    · skip
      refine wp_iload_n (pc' := 13) rfl rfl rfl ?_
      refine wp_if_lt (pc' := 16) (pt := 87) rfl rfl rfl (fun q_2 => ?_) (fun q_2 => ?_)
      · skip
        exfalso; omega
      · skip
        refine wp_aload_n (pc' := 17) rfl rfl rfl (by decide) ?_
        refine wp_aload_n (pc' := 18) rfl rfl rfl (by decide) ?_
        refine wp_getR (r' := 7) (ci := 3) (k0 := 10) (pc' := 21) rfl rfl (by decide) (by first | assumption | rfl) (hT.get 26 rfl) ?_
        refine wp_iload_n (pc' := 22) rfl rfl rfl ?_
        refine wp_iaload (pc' := 23) rfl rfl (by first | assumption | rfl) (by omega) ?_
        refine wp_putI (ci := 3) (k0 := 3) (pc' := 26) rfl rfl (by decide) (by first | assumption | rfl) ?_
        have hT := hT.putF (r := 3) (i := 3) (x := w1 7 dd) (by decide)
        refine wp_aload_n (pc' := 27) rfl rfl rfl (by decide) ?_
        refine wp_aload_n (pc' := 28) rfl rfl rfl (by decide) ?_
        refine wp_getR (r' := 8) (ci := 3) (k0 := 11) (pc' := 31) rfl rfl (by decide) (by first | assumption | rfl) (hT.get 27 rfl) ?_
        refine wp_iload_n (pc' := 32) rfl rfl rfl ?_
        refine wp_iaload (pc' := 33) rfl rfl (by first | assumption | rfl) (by omega) ?_
        refine wp_putI (ci := 3) (k0 := 4) (pc' := 36) rfl rfl (by decide) (by first | assumption | rfl) ?_
        have hT := hT.putF (r := 3) (i := 4) (x := (up w1 3 3 (w1 7 dd)) 8 dd) (by decide)
        refine wp_aload_n (pc' := 37) rfl rfl rfl (by decide) ?_
        refine wp_aload_n (pc' := 38) rfl rfl rfl (by decide) ?_
        refine wp_getR (r' := 9) (ci := 3) (k0 := 12) (pc' := 41) rfl rfl (by decide) (by first | assumption | rfl) (hT.get 28 rfl) ?_
        refine wp_iload_n (pc' := 42) rfl rfl rfl ?_
        refine wp_iaload (pc' := 43) rfl rfl (by first | assumption | rfl) (by omega) ?_
        refine wp_putI (ci := 3) (k0 := 5) (pc' := 46) rfl rfl (by decide) (by first | assumption | rfl) ?_
        have hT := hT.putF (r := 3) (i := 5) (x := (up (up w1 3 3 (w1 7 dd)) 3 4 ((up w1 3 3 (w1 7 dd)) 8 dd)) 9 dd) (by decide)
        obtain ⟨w2, hw2⟩ : ∃ w2, w2 = (up (up (up w1 3 3 (w1 7 dd)) 3 4 ((up w1 3 3 (w1 7 dd)) 8 dd)) 3 5 ((up (up w1 3 3 (w1 7 dd)) 3 4 ((up w1 3 3 (w1 7 dd)) 8 dd)) 9 dd)) := ⟨_, rfl⟩
        rw [← hw2]
        rw [← hw2] at hT
        have hS2 : SameF w1 w2 [] [(3, 3), (3, 4), (3, 5), (3, 6)] := by rw [hw2]; exact (((SameF.rf _ _ _).put (Or.inr (by decide))).put (Or.inr (by decide))).put (Or.inr (by decide))
        have y3 : w2 3 3 = w1 7 dd := by rw [hw2, up_at (by decide), up_at (by decide), up_eq]
        have y4 : w2 3 4 = w1 8 dd := by rw [hw2, up_at (by decide), up_eq, up_ne (by decide)]
        have y5 : w2 3 5 = w1 9 dd := by rw [hw2, up_eq, up_ne (by decide), up_ne (by decide)]
        have z32 : w2 3 2 = w 3 2 := (hS2 3 2 (by decide) (by decide)).trans e32
        have z10 : w2 10 = w1 10 := hS2.cell 10 (by decide) (by decide)
        have z11 : w2 11 = w1 11 := hS2.cell 11 (by decide) (by decide)
        refine wp_aload_n (pc' := 47) rfl rfl rfl (by decide) ?_
        refine wp_aload_n (pc' := 48) rfl rfl rfl (by decide) ?_
        refine wp_getR (r' := 10) (ci := 3) (k0 := 13) (pc' := 51) rfl rfl (by decide) (by first | assumption | rfl) (hT.get 29 rfl) ?_
        refine wp_iload_n (pc' := 52) rfl rfl rfl ?_
        refine wp_iaload (pc' := 53) rfl rfl (by first | assumption | rfl) (by omega) ?_
        refine wp_call (pc' := 56) rfl rfl rfl rfl rfl ⟨Nat.le_of_ble_eq_true rfl, Nat.le_of_ble_eq_true rfl, Nat.le_of_ble_eq_true rfl, Nat.le_of_ble_eq_true rfl, Nat.le_of_ble_eq_true rfl⟩ rfl (c_Land_hasOne) ?_
        rintro v1 w9 ⟨hw9, ⟨hv1, ho⟩ | ⟨hv1, ho⟩⟩
        · skip
          rw [hv1, hw9]
          clear hv1 hw9 v1 w9
          rw [z10, z32] at ho
          dsimp only [Option.toList, List.cons_append, List.nil_append, List.append_nil]
          refine wp_if_eq (pc' := 59) (pt := 76) rfl rfl rfl (fun q_3 => absurd q_3 (by decide)) (fun q_3 => ?_)
          have ho1 : 0 ≤ w2 10 dd ∧ w2 10 dd < 6 := by rw [z10]; omega
          refine wp_aload_n (pc' := 60) rfl rfl rfl (by decide) ?_
          refine wp_getR (r' := 5) (ci := 3) (k0 := 8) (pc' := 63) rfl rfl (by decide) (by first | assumption | rfl) (hT.get 24 rfl) ?_
          refine wp_aload_n (pc' := 64) rfl rfl rfl (by decide) ?_
          refine wp_getR (r' := 10) (ci := 3) (k0 := 13) (pc' := 67) rfl rfl (by decide) (by first | assumption | rfl) (hT.get 29 rfl) ?_
          refine wp_iload_n (pc' := 68) rfl rfl rfl ?_
          refine wp_iaload (pc' := 69) rfl rfl (by first | assumption | rfl) (by omega) ?_
          refine wp_aload_n (pc' := 70) rfl rfl rfl (by decide) ?_
          refine wp_getR (r' := 11) (ci := 3) (k0 := 14) (pc' := 73) rfl rfl (by decide) (by first | assumption | rfl) (hT.get 30 rfl) ?_
          refine wp_iload_n (pc' := 74) rfl rfl rfl ?_
          refine wp_iaload (pc' := 75) rfl rfl (by first | assumption | rfl) (by omega) ?_
          refine wp_iastore (pc' := 76) rfl rfl (by first | assumption | rfl) (by omega) ?_
          have hT := hT.putA (r := 5) (i := w2 10 dd) (x := w2 11 dd) (by decide)
          refine wp_aload_n (pc' := 77) rfl rfl rfl (by decide) ?_
          refine wp_iload_n (pc' := 78) rfl rfl rfl ?_
          refine wp_putI (ci := 3) (k0 := 6) (pc' := 81) rfl rfl (by decide) (by first | assumption | rfl) ?_
          refine wp_iinc (pc' := 84) rfl rfl rfl (inc_id (by omega) (by omega)) rfl ?_
          dsimp only [lset, lset2, List.set, List.getElem?_cons_zero, List.getElem?_cons_succ]
          refine wp_goto (pc' := 7) rfl rfl ?_
          obtain ⟨w3, hw3⟩ : ∃ w3, w3 = up (up w2 5 (w2 10 dd) (w2 11 dd)) 3 6 dd := ⟨_, rfl⟩
          rw [← hw3]
          have hLd : LR w1 3 N1 G (dd + 1) := by rw [show dd + 1 = e by omega]; exact hL (by omega)
          have hS3 : SameF w1 w3 [] [(3, 3), (3, 4), (3, 5), (3, 6), (5, w1 10 dd)] := by
            rw [hw3, z10]
            exact ((hS2.mono (fun r hr => hr) (fun q hq => Or.inl (by simp at hq; rcases hq with rfl | rfl | rfl | rfl <;> simp))).put (Or.inr (by simp))).put (Or.inr (by simp))
          have hL3 : LR w3 3 (fun k => G (9 * dd + k)) G dd := hLd.undo (by omega) hS3 ⟨?_, ?_, ?_, ?_⟩ (fun hh => ?_)
          rotate_left
          · rw [hw3, up_at (by decide), up_ne (by decide)]; exact y3
          · rw [hw3, up_at (by decide), up_ne (by decide)]; exact y4
          · rw [hw3, up_at (by decide), up_ne (by decide)]; exact y5
          · rw [hw3, up_eq]
          · rw [hw3, up_ne (by decide), z10, up_eq, z11]
          refine (ih dd (dd - 1) w3 _ (by omega) (by omega) rfl (hS.tr (hS3.mono (fun r hr => absurd hr (by simp)) (fun q hq => by simp at hq ⊢; rcases hq with rfl | rfl | rfl | rfl | rfl <;> simp))) (fun _ => hL3)).mono (fun v w' hq => ⟨hq.1, hq.2.1, fun hk => absurd hk (by omega), fun _ => ?_⟩)
          by_cases hk0 : k = 0
          · rw [hq.2.2.1 hk0]
            obtain rfl : dd = n := by omega
            exact hL3
          · exact hq.2.2.2 (by omega)
        · skip
          rw [hv1, hw9]
          clear hv1 hw9 v1 w9
          rw [z10, z32] at ho
          dsimp only [Option.toList, List.cons_append, List.nil_append, List.append_nil]
          refine wp_if_eq (pc' := 59) (pt := 76) rfl rfl rfl (fun q_4 => ?_) (fun q_4 => absurd (by decide) q_4)
          skip
          refine wp_aload_n (pc' := 77) rfl rfl rfl (by decide) ?_
          refine wp_iload_n (pc' := 78) rfl rfl rfl ?_
          refine wp_putI (ci := 3) (k0 := 6) (pc' := 81) rfl rfl (by decide) (by first | assumption | rfl) ?_
          refine wp_iinc (pc' := 84) rfl rfl rfl (inc_id (by omega) (by omega)) rfl ?_
          dsimp only [lset, lset2, List.set, List.getElem?_cons_zero, List.getElem?_cons_succ]
          refine wp_goto (pc' := 7) rfl rfl ?_
          obtain ⟨w3, hw3⟩ : ∃ w3, w3 = up w2 3 6 dd := ⟨_, rfl⟩
          rw [← hw3]
          have hLd : LR w1 3 N1 G (dd + 1) := by rw [show dd + 1 = e by omega]; exact hL (by omega)
          have hS3 : SameF w1 w3 [] [(3, 3), (3, 4), (3, 5), (3, 6), (5, w1 10 dd)] := by
            rw [hw3]
            exact (hS2.mono (fun r hr => hr) (fun q hq => Or.inl (by simp at hq; rcases hq with rfl | rfl | rfl | rfl <;> simp))).put (Or.inr (by simp))
          have hL3 : LR w3 3 (fun k => G (9 * dd + k)) G dd := hLd.undo (by omega) hS3 ⟨?_, ?_, ?_, ?_⟩ (fun hh => ?_)
          rotate_left
          · rw [hw3, up_at (by decide)]; exact y3
          · rw [hw3, up_at (by decide)]; exact y4
          · rw [hw3, up_at (by decide)]; exact y5
          · rw [hw3, up_eq]
          · exfalso; omega
          refine (ih dd (dd - 1) w3 _ (by omega) (by omega) rfl (hS.tr (hS3.mono (fun r hr => absurd hr (by simp)) (fun q hq => by simp at hq ⊢; rcases hq with rfl | rfl | rfl | rfl | rfl <;> simp))) (fun _ => hL3)).mono (fun v w' hq => ⟨hq.1, hq.2.1, fun hk => absurd hk (by omega), fun _ => ?_⟩)
          by_cases hk0 : k = 0
          · rw [hq.2.2.1 hk0]
            obtain rfl : dd = n := by omega
            exact hL3
          · exact hq.2.2.2 (by omega)
set_option maxRecDepth 20000 in
set_option maxHeartbeats 4000000 in
theorem c_Land_undoFrom {w : Hp} {d : Nat} {n : Int} {N G : Int → Int} (hT0 : Stc w) (hn : 0 ≤ n ∧ n ≤ w 3 6) (h6 : w 3 2 ≤ 6) (h40 : w 3 6 ≤ 40) (hL : n < w 3 6 → LR w 3 N G (w 3 6)) : WP SH (d + 1) 48 0 [some (vR 3), some (vI n), none] [] w (fun v w' => v = none ∧ SameF w w' [5] [(3, 3), (3, 4), (3, 5), (3, 6)] ∧ (w 3 6 = n → w' = w) ∧ (n < w 3 6 → LR w' 3 (fun j => G (9 * n + j)) G n)) := by
  refine wp_aload_n (pc' := 1) rfl rfl rfl (by decide) ?_
  refine wp_getI (ci := 3) (k0 := 6) (pc' := 4) rfl rfl (by decide) (by first | assumption | rfl) ?_
  refine wp_iconst (a := 1) (pc' := 5) rfl rfl rfl ?_
  refine wp_isub (pc' := 6) rfl rfl (by first | exact w32_id (by omega) (by omega) | rfl) ?_
  refine wp_istore_n (pc' := 7) rfl rfl (Nat.le_of_ble_eq_true rfl) rfl ?_
  dsimp only [lset, lset2, List.set, List.getElem?_cons_zero, List.getElem?_cons_succ]
  refine (l_undo (G := G) hT0 hn.1 h6 (w 3 6 - n).toNat (w 3 6) _ w N (by omega) h40 rfl (SameF.rf _ _ _) (fun hk => hL (by omega))).mono (fun v w' hq => ⟨hq.1, hq.2.1, fun hk => hq.2.2.1 (by omega), fun hk => hq.2.2.2 (by omega)⟩)
set_option maxRecDepth 20000 in
set_option maxHeartbeats 4000000 in
theorem l_Mundo {w : Hp} {d : Nat} {n g : Int} {Q : Option PV → Hp → Prop} (hT0 : Stc w) (hn : 0 ≤ n ∧ n < 40) (hg : 0 < g) (K : ∀ w1 : Hp, Same w w1 [109] → (∀ j : Int, 0 ≤ j → j < 9 → w1 109 j = w 114 (9 * n + j)) → WP SH d 194 56 [some (vR 100), some (vI n), some (vI g), some (vI 9)] [] w1 Q) : ∀ (k : Nat) (i : Int) (w1 : Hp), 0 ≤ i → i + k = 9 → Same w w1 [109] → (∀ j : Int, 0 ≤ j → j < i → w1 109 j = w 114 (9 * n + j)) → WP SH d 194 23 [some (vR 100), some (vI n), some (vI g), some (vI i)] [] w1 Q := by
  intro k
  induction k with
  | zero =>
    intro i w1 h0 hik hS hz
    have hT := hT0.same hS (by decide)
    refine wp_iload_n (pc' := 24) rfl rfl rfl ?_
    refine wp_bipush (a := 9) (pc' := 26) rfl rfl rfl ?_
    refine wp_icmp_ge (pc' := 29) (pt := 56) rfl rfl rfl (fun q_1 => ?_) (fun q_1 => ?_)
    · skip
      obtain rfl : i = 9 := by omega
      exact K w1 hS hz
    · skip
      exfalso; omega
  | succ k ih =>
    intro i w1 h0 hik hS hz
    have hT := hT0.same hS (by decide)
    refine wp_iload_n (pc' := 24) rfl rfl rfl ?_
    refine wp_bipush (a := 9) (pc' := 26) rfl rfl rfl ?_
    refine wp_icmp_ge (pc' := 29) (pt := 56) rfl rfl rfl (fun q_1 => ?_) (fun q_1 => ?_)
    · skip
      exfalso; omega
    · skip
      refine wp_iload_n (pc' := 30) rfl rfl rfl ?_
      refine wp_if_le (pc' := 33) (pt := 56) rfl rfl rfl (fun q_2 => ?_) (fun q_2 => ?_)
      · skip
        exfalso; omega
      · skip
        refine wp_aload_n (pc' := 34) rfl rfl rfl (by decide) ?_
        refine wp_getR (r' := 109) (ci := 10) (k0 := 15) (pc' := 37) rfl rfl (by decide) (by first | assumption | rfl) (hT.get 107 rfl) ?_
        refine wp_iload_n (pc' := 38) rfl rfl rfl ?_
        refine wp_aload_n (pc' := 39) rfl rfl rfl (by decide) ?_
        refine wp_getR (r' := 114) (ci := 10) (k0 := 24) (pc' := 42) rfl rfl (by decide) (by first | assumption | rfl) (hT.get 112 rfl) ?_
        refine wp_bipush (a := 9) (pc' := 44) rfl rfl rfl ?_
        refine wp_iload_n (pc' := 45) rfl rfl rfl ?_
        refine wp_imul (pc' := 46) rfl rfl (by first | exact w32_id (by omega) (by omega) | rfl) ?_
        refine wp_iload_n (pc' := 47) rfl rfl rfl ?_
        refine wp_iadd (pc' := 48) rfl rfl (by first | exact w32_id (by omega) (by omega) | rfl) ?_
        refine wp_iaload (pc' := 49) rfl rfl (by first | assumption | rfl) (by omega) ?_
        refine wp_iastore (pc' := 50) rfl rfl (by first | assumption | rfl) (by omega) ?_
        refine wp_iinc (pc' := 53) rfl rfl rfl (inc_id (by omega) (by omega)) rfl ?_
        dsimp only [lset, lset2, List.set, List.getElem?_cons_zero, List.getElem?_cons_succ]
        refine wp_goto (pc' := 23) rfl rfl ?_
        refine ih (i + 1) _ (by omega) (by omega) (hS.put (by decide)) (fun j j0 j1 => ?_)
        by_cases hj : j = i
        · rw [hj, up_eq, hS 114 (by decide)]
        · rw [up_at hj]
          exact hz j j0 (by omega)
theorem undo_end {w w1 w2 : Hp} {n : Int} (hI : Inv w) (hn : 0 ≤ n ∧ n < w 3 6) (hS1 : SameF w w1 [5] [(3, 3), (3, 4), (3, 5), (3, 6)]) (hL : LR w1 3 (fun j => w 114 (9 * n + j)) (w 114) n) (hS2 : Same w1 w2 [109]) (hz : ∀ j : Int, 0 ≤ j → j < 9 → w2 109 j = w1 114 (9 * n + j)) : (up w2 100 23 n) (-2) = w1 (-2) ∧ Inv (up w2 100 23 n) := by
  obtain ⟨hn25, b11, b12, b10, hn6, hem, m0, m1, m2, m23, hyr, hdd, hpre⟩ := hI.base
  have hn0 : w 3 2 ≠ 0 := fun h0 => by
    rcases hI.2.2.2.2.2.2.1 with hE | hE
    · have := hE.2.2.2.2.2.2.1
      omega
    · have := hE.1.2.1
      omega
  have hpr := hpre hn0
  have er : ∀ q : Int, 100 ≤ q → w1 q = w q := fun q hq => hS1.cell q (by simp; omega) (by simp; omega)
  have eu : ∀ q : Int, q ≠ 100 → q ≠ 109 → up w2 100 23 n q = w1 q := fun q a b => by rw [up_ne a, hS2 q (by simp; omega)]
  have e100 : ∀ k : Int, k ≠ 23 → up w2 100 23 n 100 k = w 100 k := fun k hk => by rw [up_at hk, hS2 100 (by decide), er 100 (by decide)]
  have e23 : up w2 100 23 n 100 23 = n := up_eq _ _ _ _
  have e9 : ∀ j : Int, 0 ≤ j → j < 9 → up w2 100 23 n 109 j = w 114 (9 * n + j) := fun j a b => by rw [up_ne (by decide), hz j a b, er 114 (by decide)]
  have hSs : SameF w (up w2 100 23 n) LL FL := (((hS1.mono (fun r hr => by simp at hr; simp [LL, hr]) (fun q hq => by simp at hq; rcases hq with rfl | rfl | rfl | rfl <;> simp [FL])).tr ((hS2.F []).mono (fun r hr => by simp at hr; simp [LL, hr]) (fun q hq => absurd hq (by simp))))).put (Or.inr (by decide))
  generalize up w2 100 23 n = w' at *
  have hL' : LR w' 3 (w' 109) (w' 114) n := hL.move (by rw [er 100 (by decide)]; omega) ⟨by rw [e100 10 (by decide), er 100 (by decide)], by rw [e100 11 (by decide), er 100 (by decide)], by rw [e100 12 (by decide), er 100 (by decide)], by rw [eu 107 (by decide) (by decide)], by rw [eu 108 (by decide) (by decide)]⟩ (fun j _ _ => by rw [eu 3 (by decide) (by decide)]) (fun q a b j _ _ => by rw [eu (3 + q) (by omega) (by omega)]) (fun j a b => e9 j a b) (fun z _ _ => by rw [eu 114 (by decide) (by decide), er 114 (by decide)])
  have hM' : MdOK w' := by
    obtain ⟨q1, q2, q3⟩ := hpr.2.1
    refine ⟨by rw [e100 11 (by decide), e100 12 (by decide)]; exact q1, by rw [e100 10 (by decide)]; exact q2, fun j j0 j1 => ?_⟩
    have hj := (hL'.2.2.2.2.2.1 j j0 j1).2.2.2
    rw [e100 10 (by decide)] at j1
    rw [eu 107 (by decide) (by decide), eu 108 (by decide) (by decide), er 107 (by decide), er 108 (by decide)]
    obtain ⟨t1, t2, t3⟩ := q3 j j0 j1
    exact ⟨t1, hj, t3⟩
  refine ⟨eu (-2) (by decide) (by decide), hI.land0 hSs ?_ (Or.inr ⟨hM', by rw [e23]; exact hL'⟩) ?_⟩
  · rw [eu 0 (by decide) (by decide), hS1 0 14 (by decide) (by decide), e100 2 (by decide)]
    exact hI.2.2.2.1
  · have ec : ∀ q : Int, q ≠ 100 → q ≠ 109 → q ≠ 3 → q ≠ 5 → w' q = w q := fun q a b c e => (eu q a b).trans (hS1.cell q (by simp; omega) (by simp; omega))
    exact hI.2.2.2.2.2.2.2.md hM' (fun q a b => ec q (by omega) (by omega) (by omega) (by omega)) ⟨e100 10 (by decide), e100 11 (by decide), e100 12 (by decide)⟩ (ec 107 (by decide) (by decide) (by decide) (by decide)) (ec 108 (by decide) (by decide) (by decide) (by decide)) ⟨ec 115 (by decide) (by decide) (by decide) (by decide), ec 116 (by decide) (by decide) (by decide) (by decide), ec 117 (by decide) (by decide) (by decide) (by decide), ec 118 (by decide) (by decide) (by decide) (by decide)⟩
set_option maxRecDepth 20000 in
set_option maxHeartbeats 4000000 in
theorem p_undo {w : Hp} {d : Nat} {n : Int} (hI : Inv w) : WP SH (d + 9) 96 0 [some (vR 0), some (vI n), none] [] w (fun v0 w1 => ∃ a, v0 = some (vI a) ∧ w1 (-2) = w (-2) ∧ WP SH (d + 9) 194 0 [some (vR 100), some (vI n), none, none] [] w1 (fun v2 w2 => v2 = some (vI a) ∧ w2 (-2) = w1 (-2) ∧ Inv w2)) := by
  obtain ⟨hT, hRO, hIF, hITo, hIR, hIT, hIL, hIK⟩ := id hI
  obtain ⟨hn25, b11, b12, b10, hn6, hem, m0, m1, m2, m23, hyr, hdd, hpre⟩ := hI.base
  have hmm : w 100 11 * w 100 12 = w 3 0 * w 3 1 := by rw [b11, b12]
  have hnz : 0 ≤ n → n < w 3 6 → w 3 2 ≠ 0 := fun hnn hlt h0 => by
    rcases hIL with hE | hE
    · have := hE.2.2.2.2.2.2.1
      omega
    · have := hE.1.2.1
      omega
  refine wp_iload_n (pc' := 1) rfl rfl rfl ?_
  refine wp_if_lt (pc' := 4) (pt := 15) rfl rfl rfl (fun q_1 => ?_) (fun q_1 => ?_)
  · skip
    refine wp_iconst (a := -1) (pc' := 16) rfl rfl rfl ?_
    refine wp_ret rfl rfl rfl ?_
    refine ⟨_, rfl, ?_, ?_⟩
    · rfl
    refine wp_iload_n (pc' := 1) rfl rfl rfl ?_
    refine wp_iconst (a := 0) (pc' := 2) rfl rfl rfl ?_
    refine wp_aload_n (pc' := 3) rfl rfl rfl (by decide) ?_
    refine wp_getI (ci := 10) (k0 := 23) (pc' := 6) rfl rfl (by decide) (by first | assumption | rfl) ?_
    refine wp_call (pc' := 9) rfl rfl rfl rfl rfl ⟨Nat.le_of_ble_eq_true rfl, Nat.le_of_ble_eq_true rfl, Nat.le_of_ble_eq_true rfl, Nat.le_of_ble_eq_true rfl, Nat.le_of_ble_eq_true rfl⟩ rfl (c_Mod_in) ?_
    rintro v1 w9 ⟨hw9, ⟨hv1, hin⟩ | ⟨hv1, hin⟩⟩
    · skip
      rw [hv1, hw9]
      clear hv1 hw9 v1 w9
      dsimp only [Option.toList, List.cons_append, List.nil_append, List.append_nil]
      refine wp_if_ne (pc' := 12) (pt := 14) rfl rfl rfl (fun q_52 => ?_) (fun q_52 => absurd (by decide) q_52)
      exfalso; omega
    · skip
      rw [hv1, hw9]
      clear hv1 hw9 v1 w9
      dsimp only [Option.toList, List.cons_append, List.nil_append, List.append_nil]
      refine wp_if_ne (pc' := 12) (pt := 14) rfl rfl rfl (fun q_53 => absurd q_53 (by decide)) (fun q_53 => ?_)
      refine wp_iconst (a := -1) (pc' := 13) rfl rfl rfl ?_
      refine wp_ret rfl rfl rfl ?_
      first
      | (exfalso; omega)
      | exact ⟨rfl, rfl, hI⟩
  · skip
    refine wp_iload_n (pc' := 5) rfl rfl rfl ?_
    refine wp_aload_n (pc' := 6) rfl rfl rfl (by decide) ?_
    refine wp_getR (r' := 3) (ci := 9) (k0 := 2) (pc' := 9) rfl rfl (by decide) (by first | assumption | rfl) (hT.get 2 rfl) ?_
    refine wp_getI (ci := 3) (k0 := 6) (pc' := 12) rfl rfl (by decide) (by first | assumption | rfl) ?_
    refine wp_icmp_le (pc' := 15) (pt := 17) rfl rfl rfl (fun q_54 => ?_) (fun q_54 => ?_)
    · skip
      refine wp_aload_n (pc' := 18) rfl rfl rfl (by decide) ?_
      refine wp_getR (r' := 3) (ci := 9) (k0 := 2) (pc' := 21) rfl rfl (by decide) (by first | assumption | rfl) (hT.get 2 rfl) ?_
      refine wp_getI (ci := 3) (k0 := 6) (pc' := 24) rfl rfl (by decide) (by first | assumption | rfl) ?_
      refine wp_iload_n (pc' := 25) rfl rfl rfl ?_
      refine wp_isub (pc' := 26) rfl rfl (by first | exact w32_id (by omega) (by omega) | rfl) ?_
      refine wp_istore_n (pc' := 27) rfl rfl (Nat.le_of_ble_eq_true rfl) rfl ?_
      dsimp only [lset, lset2, List.set, List.getElem?_cons_zero, List.getElem?_cons_succ]
      refine wp_aload_n (pc' := 28) rfl rfl rfl (by decide) ?_
      refine wp_getR (r' := 3) (ci := 9) (k0 := 2) (pc' := 31) rfl rfl (by decide) (by first | assumption | rfl) (hT.get 2 rfl) ?_
      refine wp_iload_n (pc' := 32) rfl rfl rfl ?_
      refine wp_call (pc' := 35) rfl rfl rfl rfl rfl ⟨Nat.le_of_ble_eq_true rfl, Nat.le_of_ble_eq_true rfl, Nat.le_of_ble_eq_true rfl, Nat.le_of_ble_eq_true rfl, Nat.le_of_ble_eq_true rfl⟩ rfl (c_Land_undoFrom (N := w 109) (G := w 114) hT (by omega) (by omega) (by omega) (fun hlt => by rw [← m23]; exact hI.lr (hnz (by omega) hlt))) ?_
      rintro v1 w1 ⟨hv1, hS1, hw0, hL1⟩
      rw [hv1]
      clear hv1 v1
      have hT1 : Stc w1 := hT.sameF hS1 (by decide)
      have er : ∀ q : Int, 100 ≤ q → w1 q = w q := fun q hq => hS1.cell q (by simp; omega) (by simp; omega)
      have f23 : w1 100 23 = w 3 6 := by rw [er 100 (by decide), m23]
      have hT := hT1
      dsimp only [Option.toList, List.cons_append, List.nil_append, List.append_nil]
      refine wp_iload_n (pc' := 36) rfl rfl rfl ?_
      refine wp_ret rfl rfl rfl ?_
      refine ⟨_, rfl, ?_, ?_⟩
      · exact hS1.cell (-2) (by decide) (by decide)
      refine wp_iload_n (pc' := 1) rfl rfl rfl ?_
      refine wp_iconst (a := 0) (pc' := 2) rfl rfl rfl ?_
      refine wp_aload_n (pc' := 3) rfl rfl rfl (by decide) ?_
      refine wp_getI (ci := 10) (k0 := 23) (pc' := 6) rfl rfl (by decide) (by first | assumption | rfl) ?_
      refine wp_call (pc' := 9) rfl rfl rfl rfl rfl ⟨Nat.le_of_ble_eq_true rfl, Nat.le_of_ble_eq_true rfl, Nat.le_of_ble_eq_true rfl, Nat.le_of_ble_eq_true rfl, Nat.le_of_ble_eq_true rfl⟩ rfl (c_Mod_in) ?_
      rintro v1 w9 ⟨hw9, ⟨hv1, hin⟩ | ⟨hv1, hin⟩⟩
      · skip
        rw [hv1, hw9]
        clear hv1 hw9 v1 w9
        dsimp only [Option.toList, List.cons_append, List.nil_append, List.append_nil]
        refine wp_if_ne (pc' := 12) (pt := 14) rfl rfl rfl (fun q_105 => ?_) (fun q_105 => absurd (by decide) q_105)
        refine wp_aload_n (pc' := 15) rfl rfl rfl (by decide) ?_
        refine wp_getI (ci := 10) (k0 := 23) (pc' := 18) rfl rfl (by decide) (by first | assumption | rfl) ?_
        refine wp_iload_n (pc' := 19) rfl rfl rfl ?_
        refine wp_isub (pc' := 20) rfl rfl (by first | exact w32_id (by omega) (by omega) | rfl) ?_
        refine wp_istore_n (pc' := 21) rfl rfl (Nat.le_of_ble_eq_true rfl) rfl ?_
        dsimp only [lset, lset2, List.set, List.getElem?_cons_zero, List.getElem?_cons_succ]
        refine wp_iconst (a := 0) (pc' := 22) rfl rfl rfl ?_
        refine wp_istore_n (pc' := 23) rfl rfl (Nat.le_of_ble_eq_true rfl) rfl ?_
        dsimp only [lset, lset2, List.set, List.getElem?_cons_zero, List.getElem?_cons_succ]
        by_cases hnm : n < w 3 6
        · refine l_Mundo hT (by omega) (by omega) (fun w2 hS2 hz2 => ?_) 9 0 w1 (by decide) (by decide) (Same.rf _ _) (fun j a b => absurd b (by omega))
          have f23b : w2 100 23 = w1 100 23 := by rw [hS2 100 (by decide)]
          refine wp_aload_n (pc' := 57) rfl rfl rfl (by decide) ?_
          refine wp_iload_n (pc' := 58) rfl rfl rfl ?_
          refine wp_putI (ci := 10) (k0 := 23) (pc' := 61) rfl rfl (by decide) (by first | assumption | rfl) ?_
          refine wp_iload_n (pc' := 62) rfl rfl rfl ?_
          refine wp_ret rfl rfl rfl ?_
          have hend := undo_end hI (by omega) hS1 (hL1 (by omega)) hS2 hz2
          exact ⟨by rw [f23], hend.1, hend.2⟩
        · skip
          refine wp_iload_n (pc' := 24) rfl rfl rfl ?_
          refine wp_bipush (a := 9) (pc' := 26) rfl rfl rfl ?_
          refine wp_icmp_ge (pc' := 29) (pt := 56) rfl rfl rfl (fun q_146 => absurd q_146 (by decide)) (fun q_146 => ?_)
          refine wp_iload_n (pc' := 30) rfl rfl rfl ?_
          refine wp_if_le (pc' := 33) (pt := 56) rfl rfl rfl (fun q_147 => ?_) (fun q_147 => ?_)
          · skip
            refine wp_aload_n (pc' := 57) rfl rfl rfl (by decide) ?_
            refine wp_iload_n (pc' := 58) rfl rfl rfl ?_
            refine wp_putI (ci := 10) (k0 := 23) (pc' := 61) rfl rfl (by decide) (by first | assumption | rfl) ?_
            refine wp_iload_n (pc' := 62) rfl rfl rfl ?_
            refine wp_ret rfl rfl rfl ?_
            first
            | (exfalso; omega)
            | (have hnm : w 3 6 = n := by omega
               have hw1 := hw0 hnm
               subst hw1
               have hcu : up w1 100 23 n = w1 := by
                 funext a b
                 by_cases hab : a = 100 ∧ b = 23
                 · rw [hab.1, hab.2, up_eq]; omega
                 · unfold up; rw [if_neg hab]
               rw [hcu]
               exact ⟨by rw [f23], rfl, hI⟩)
          · skip
            exfalso; omega
      · skip
        rw [hv1, hw9]
        clear hv1 hw9 v1 w9
        dsimp only [Option.toList, List.cons_append, List.nil_append, List.append_nil]
        refine wp_if_ne (pc' := 12) (pt := 14) rfl rfl rfl (fun q_148 => absurd q_148 (by decide)) (fun q_148 => ?_)
        refine wp_iconst (a := -1) (pc' := 13) rfl rfl rfl ?_
        refine wp_ret rfl rfl rfl ?_
        first
        | (exfalso; omega)
        | exact ⟨rfl, rfl, hI⟩
    · skip
      refine wp_iconst (a := -1) (pc' := 16) rfl rfl rfl ?_
      refine wp_ret rfl rfl rfl ?_
      refine ⟨_, rfl, ?_, ?_⟩
      · rfl
      refine wp_iload_n (pc' := 1) rfl rfl rfl ?_
      refine wp_iconst (a := 0) (pc' := 2) rfl rfl rfl ?_
      refine wp_aload_n (pc' := 3) rfl rfl rfl (by decide) ?_
      refine wp_getI (ci := 10) (k0 := 23) (pc' := 6) rfl rfl (by decide) (by first | assumption | rfl) ?_
      refine wp_call (pc' := 9) rfl rfl rfl rfl rfl ⟨Nat.le_of_ble_eq_true rfl, Nat.le_of_ble_eq_true rfl, Nat.le_of_ble_eq_true rfl, Nat.le_of_ble_eq_true rfl, Nat.le_of_ble_eq_true rfl⟩ rfl (c_Mod_in) ?_
      rintro v1 w9 ⟨hw9, ⟨hv1, hin⟩ | ⟨hv1, hin⟩⟩
      · skip
        rw [hv1, hw9]
        clear hv1 hw9 v1 w9
        dsimp only [Option.toList, List.cons_append, List.nil_append, List.append_nil]
        refine wp_if_ne (pc' := 12) (pt := 14) rfl rfl rfl (fun q_199 => ?_) (fun q_199 => absurd (by decide) q_199)
        exfalso; omega
      · skip
        rw [hv1, hw9]
        clear hv1 hw9 v1 w9
        dsimp only [Option.toList, List.cons_append, List.nil_append, List.append_nil]
        refine wp_if_ne (pc' := 12) (pt := 14) rfl rfl rfl (fun q_200 => absurd q_200 (by decide)) (fun q_200 => ?_)
        refine wp_iconst (a := -1) (pc' := 13) rfl rfl rfl ?_
        refine wp_ret rfl rfl rfl ?_
        first
        | (exfalso; omega)
        | exact ⟨rfl, rfl, hI⟩
