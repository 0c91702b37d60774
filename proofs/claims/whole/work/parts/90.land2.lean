/-! land, the public call -/
theorem hE_ge (T : Int → Int) (z q : Int) : q ≤ hE T z q := by
  unfold hE
  (repeat' split) <;> omega
set_option maxRecDepth 20000 in
set_option maxHeartbeats 4000000 in
theorem l_Mland2 {w : Hp} {d : Nat} {t : Int} {Q : Option PV → Hp → Prop} (hT0 : Stc w) (hc : 3 ≤ w 100 11 ∧ w 100 11 ≤ 5) (hn : 0 ≤ w 100 10 ∧ w 100 10 ≤ 6) (hb : ∀ j : Int, 0 ≤ j → j < w 100 10 → (0 ≤ w 112 (4 * j + 2) ∧ w 112 (4 * j + 2) ≤ 4) ∧ (0 ≤ w 112 (4 * j + 1) ∧ w 112 (4 * j + 1) ≤ 4)) (K : ∀ w1 : Hp, Same w w1 [107, 108, 109] → (∀ j : Int, 0 ≤ j → j < 3 → w1 109 j = w 109 j) → (∀ j : Int, 0 ≤ j → j < w 100 10 → w1 107 j = w 112 (4 * j) ∧ w1 109 (3 + j) = w 100 11 * w 112 (4 * j + 2) + w 112 (4 * j + 1) ∧ w1 108 j = w 112 (4 * j + 3)) → WP SH d 166 190 [some (vR 100), some (vI t), some (vI (w 100 10))] [] w1 Q) : ∀ (k : Nat) (y : Int) (w1 : Hp), 0 ≤ y → y + k = w 100 10 → Same w w1 [107, 108, 109] → (∀ j : Int, 0 ≤ j → j < 3 → w1 109 j = w 109 j) → (∀ j : Int, 0 ≤ j → j < y → w1 107 j = w 112 (4 * j) ∧ w1 109 (3 + j) = w 100 11 * w 112 (4 * j + 2) + w 112 (4 * j + 1) ∧ w1 108 j = w 112 (4 * j + 3)) → WP SH d 166 112 [some (vR 100), some (vI t), some (vI y)] [] w1 Q := by
  intro k
  induction k with
  | zero =>
    intro y w1 h0 hyk hS hz3 hz
    have hT := hT0.same hS (by decide)
    have e100 : w1 100 = w 100 := hS 100 (by decide)
    have e12 : w1 112 = w 112 := hS 112 (by decide)
    have e10 : w1 100 10 = w 100 10 := by rw [e100]
    have e11 : w1 100 11 = w 100 11 := by rw [e100]
    refine wp_iload_n (pc' := 113) rfl rfl rfl ?_
    refine wp_aload_n (pc' := 114) rfl rfl rfl (by decide) ?_
    refine wp_getI (ci := 10) (k0 := 10) (pc' := 117) rfl rfl (by decide) (by first | assumption | rfl) ?_
    refine wp_icmp_ge (pc' := 120) (pt := 190) rfl rfl rfl (fun q_1 => ?_) (fun q_1 => ?_)
    · skip
      obtain rfl : y = w 100 10 := by omega
      exact K w1 hS hz3 hz
    · skip
      exfalso; omega
  | succ k ih =>
    intro y w1 h0 hyk hS hz3 hz
    have hT := hT0.same hS (by decide)
    have e100 : w1 100 = w 100 := hS 100 (by decide)
    have e12 : w1 112 = w 112 := hS 112 (by decide)
    have e10 : w1 100 10 = w 100 10 := by rw [e100]
    have e11 : w1 100 11 = w 100 11 := by rw [e100]
    refine wp_iload_n (pc' := 113) rfl rfl rfl ?_
    refine wp_aload_n (pc' := 114) rfl rfl rfl (by decide) ?_
    refine wp_getI (ci := 10) (k0 := 10) (pc' := 117) rfl rfl (by decide) (by first | assumption | rfl) ?_
    refine wp_icmp_ge (pc' := 120) (pt := 190) rfl rfl rfl (fun q_1 => ?_) (fun q_1 => ?_)
    · skip
      exfalso; omega
    · skip
      refine wp_aload_n (pc' := 121) rfl rfl rfl (by decide) ?_
      refine wp_getR (r' := 107) (ci := 10) (k0 := 13) (pc' := 124) rfl rfl (by decide) (by first | assumption | rfl) (hT.get 105 rfl) ?_
      refine wp_iload_n (pc' := 125) rfl rfl rfl ?_
      refine wp_aload_n (pc' := 126) rfl rfl rfl (by decide) ?_
      refine wp_getR (r' := 112) (ci := 10) (k0 := 21) (pc' := 129) rfl rfl (by decide) (by first | assumption | rfl) (hT.get 110 rfl) ?_
      refine wp_iconst (a := 4) (pc' := 130) rfl rfl rfl ?_
      refine wp_iload_n (pc' := 131) rfl rfl rfl ?_
      refine wp_imul (pc' := 132) rfl rfl (by first | exact w32_id (by omega) (by omega) | rfl) ?_
      refine wp_iaload (pc' := 133) rfl rfl (by first | assumption | rfl) (by omega) ?_
      rw [e12]
      refine wp_iastore (pc' := 134) rfl rfl (by first | assumption | rfl) (by omega) ?_
      refine wp_stc (hT.putA (by decide)) (fun hT => ?_)
      refine wp_aload_n (pc' := 135) rfl rfl rfl (by decide) ?_
      refine wp_getR (r' := 109) (ci := 10) (k0 := 15) (pc' := 138) rfl rfl (by decide) (by first | assumption | rfl) (hT.get 107 rfl) ?_
      refine wp_iconst (a := 3) (pc' := 139) rfl rfl rfl ?_
      refine wp_iload_n (pc' := 140) rfl rfl rfl ?_
      refine wp_iadd (pc' := 141) rfl rfl (by first | exact w32_id (by omega) (by omega) | rfl) ?_
      refine wp_aload_n (pc' := 142) rfl rfl rfl (by decide) ?_
      refine wp_getI (ci := 10) (k0 := 11) (pc' := 145) rfl rfl (by decide) (by first | assumption | rfl) ?_
      rw [up_ne (show (100 : Int) ≠ 107 by decide), e11]
      refine wp_aload_n (pc' := 146) rfl rfl rfl (by decide) ?_
      refine wp_getR (r' := 112) (ci := 10) (k0 := 21) (pc' := 149) rfl rfl (by decide) (by first | assumption | rfl) (hT.get 110 rfl) ?_
      refine wp_iconst (a := 4) (pc' := 150) rfl rfl rfl ?_
      refine wp_iload_n (pc' := 151) rfl rfl rfl ?_
      refine wp_imul (pc' := 152) rfl rfl (by first | exact w32_id (by omega) (by omega) | rfl) ?_
      refine wp_iconst (a := 2) (pc' := 153) rfl rfl rfl ?_
      refine wp_iadd (pc' := 154) rfl rfl (by first | exact w32_id (by omega) (by omega) | rfl) ?_
      refine wp_iaload (pc' := 155) rfl rfl (by first | assumption | rfl) (by omega) ?_
      rw [up_ne (show (112 : Int) ≠ 107 by decide), e12]
      have hby := hb y h0 (by omega)
      have hmm := mul_bd (show 0 ≤ w 100 11 by omega) hc.2 hby.1.1 hby.1.2
      refine wp_imul (pc' := 156) rfl rfl (by first | exact w32_id (by omega) (by omega) | rfl) ?_
      refine wp_aload_n (pc' := 157) rfl rfl rfl (by decide) ?_
      refine wp_getR (r' := 112) (ci := 10) (k0 := 21) (pc' := 160) rfl rfl (by decide) (by first | assumption | rfl) (hT.get 110 rfl) ?_
      refine wp_iconst (a := 4) (pc' := 161) rfl rfl rfl ?_
      refine wp_iload_n (pc' := 162) rfl rfl rfl ?_
      refine wp_imul (pc' := 163) rfl rfl (by first | exact w32_id (by omega) (by omega) | rfl) ?_
      refine wp_iconst (a := 1) (pc' := 164) rfl rfl rfl ?_
      refine wp_iadd (pc' := 165) rfl rfl (by first | exact w32_id (by omega) (by omega) | rfl) ?_
      refine wp_iaload (pc' := 166) rfl rfl (by first | assumption | rfl) (by omega) ?_
      rw [up_ne (show (112 : Int) ≠ 107 by decide), e12]
      refine wp_iadd (pc' := 167) rfl rfl (by first | exact w32_id (by omega) (by omega) | rfl) ?_
      refine wp_iastore (pc' := 168) rfl rfl (by first | assumption | rfl) (by omega) ?_
      refine wp_stc (hT.putA (by decide)) (fun hT => ?_)
      refine wp_aload_n (pc' := 169) rfl rfl rfl (by decide) ?_
      refine wp_getR (r' := 108) (ci := 10) (k0 := 14) (pc' := 172) rfl rfl (by decide) (by first | assumption | rfl) (hT.get 106 rfl) ?_
      refine wp_iload_n (pc' := 173) rfl rfl rfl ?_
      refine wp_aload_n (pc' := 174) rfl rfl rfl (by decide) ?_
      refine wp_getR (r' := 112) (ci := 10) (k0 := 21) (pc' := 177) rfl rfl (by decide) (by first | assumption | rfl) (hT.get 110 rfl) ?_
      refine wp_iconst (a := 4) (pc' := 178) rfl rfl rfl ?_
      refine wp_iload_n (pc' := 179) rfl rfl rfl ?_
      refine wp_imul (pc' := 180) rfl rfl (by first | exact w32_id (by omega) (by omega) | rfl) ?_
      refine wp_iconst (a := 3) (pc' := 181) rfl rfl rfl ?_
      refine wp_iadd (pc' := 182) rfl rfl (by first | exact w32_id (by omega) (by omega) | rfl) ?_
      refine wp_iaload (pc' := 183) rfl rfl (by first | assumption | rfl) (by omega) ?_
      rw [up_ne (show (112 : Int) ≠ 109 by decide), up_ne (show (112 : Int) ≠ 107 by decide), e12]
      refine wp_iastore (pc' := 184) rfl rfl (by first | assumption | rfl) (by omega) ?_
      refine wp_iinc (pc' := 187) rfl rfl rfl (inc_id (by omega) (by omega)) rfl ?_
      dsimp only [lset, lset2, List.set, List.getElem?_cons_zero, List.getElem?_cons_succ]
      refine wp_goto (pc' := 112) rfl rfl ?_
      refine ih (y + 1) _ (by omega) (by omega) (((hS.put (by decide)).put (by decide)).put (by decide)) (fun j j0 j1 => ?_) (fun j j0 j1 => ?_)
      · rw [up_ne (by decide), up_at (by omega), up_ne (by decide)]
        exact hz3 j j0 j1
      · rw [up_ne (show (107 : Int) ≠ 108 by decide), up_ne (show (107 : Int) ≠ 109 by decide), up_ne (show (109 : Int) ≠ 108 by decide)]
        by_cases hj : j = y
        · rw [hj, up_eq, up_eq, up_eq]
          exact ⟨rfl, rfl, rfl⟩
        · rw [up_at hj, up_at (show 3 + j ≠ 3 + y by omega), up_at hj, up_ne (show (109 : Int) ≠ 107 by decide), up_ne (show (108 : Int) ≠ 109 by decide), up_ne (show (108 : Int) ≠ 107 by decide)]
          exact hz j j0 (by omega)
set_option maxRecDepth 20000 in
set_option maxHeartbeats 4000000 in
theorem r_land3 {w : Hp} {d : Nat} {t : Int} {x2 : Option PV} {Q : Option PV → Hp → Prop} (hT : Stc w) (K : ∀ w' : Hp, SameF w w' [115] [(100, 23)] → w' 100 23 = 0 → (∀ k : Int, 0 ≤ k → k < 3 → w' 115 k = 0) → Q (some (vI (w' 100 10))) w') : WP SH d 166 190 [some (vR 100), some (vI t), x2] [] w Q := by
  refine wp_aload_n (pc' := 191) rfl rfl rfl (by decide) ?_
  refine wp_iconst (a := 0) (pc' := 192) rfl rfl rfl ?_
  refine wp_putI (ci := 10) (k0 := 23) (pc' := 195) rfl rfl (by decide) (by first | assumption | rfl) ?_
  refine wp_iconst (a := 0) (pc' := 196) rfl rfl rfl ?_
  refine wp_istore_n (pc' := 197) rfl rfl (Nat.le_of_ble_eq_true rfl) rfl ?_
  dsimp only [lset, lset2, List.set, List.getElem?_cons_zero, List.getElem?_cons_succ]
  have hT2 : Stc (up w 100 23 0) := hT.putF (by decide)
  refine l_Mland3 hT2 (fun w1 hS hz => ?_) 3 0 _ (by decide) (by decide) (Same.rf _ _) (fun j a b => absurd b (by omega))
  have hT := hT2.same hS (by decide)
  refine wp_aload_n (pc' := 216) rfl rfl rfl (by decide) ?_
  refine wp_getI (ci := 10) (k0 := 10) (pc' := 219) rfl rfl (by decide) (by first | assumption | rfl) ?_
  refine wp_ret rfl rfl rfl ?_
  exact K w1 (((SameF.rf w _ _).put (Or.inr (by decide))).tr (hS.F _)) (by rw [hS 100 (by decide), up_eq]) hz
set_option maxRecDepth 20000 in
set_option maxHeartbeats 4000000 in
theorem r_land2 {w : Hp} {d : Nat} {t : Int} {x2 : Option PV} {Q : Option PV → Hp → Prop} (hT : Stc w) (hc : 3 ≤ w 100 11 ∧ w 100 11 ≤ 5) (hn : 0 ≤ w 100 10 ∧ w 100 10 ≤ 6) (hh : (0 ≤ w 111 3 ∧ w 111 3 ≤ 4) ∧ (0 ≤ w 111 2 ∧ w 111 2 ≤ 4)) (hb : ∀ j : Int, 0 ≤ j → j < w 100 10 → (0 ≤ w 112 (4 * j + 2) ∧ w 112 (4 * j + 2) ≤ 4) ∧ (0 ≤ w 112 (4 * j + 1) ∧ w 112 (4 * j + 1) ≤ 4)) (hz : ∀ j : Int, 0 ≤ j → j < 9 → w 109 j = 0) (K : ∀ w' : Hp, SameF w w' [107, 108, 109, 115] [(100, 23)] → w' 100 23 = 0 → w' 109 0 = w 100 11 * w 111 3 + w 111 2 → w' 109 1 = 0 → w' 109 2 = 0 → (∀ j : Int, 0 ≤ j → j < w 100 10 → w' 107 j = w 112 (4 * j) ∧ w' 109 (3 + j) = w 100 11 * w 112 (4 * j + 2) + w 112 (4 * j + 1) ∧ w' 108 j = w 112 (4 * j + 3)) → (∀ k : Int, 0 ≤ k → k < 3 → w' 115 k = 0) → Q (some (vI (w' 100 10))) w') : WP SH d 166 86 [some (vR 100), some (vI t), x2] [] w Q := by
  have hmm := mul_bd (show 0 ≤ w 100 11 by omega) hc.2 hh.1.1 hh.1.2
  refine wp_aload_n (pc' := 87) rfl rfl rfl (by decide) ?_
  refine wp_getR (r' := 109) (ci := 10) (k0 := 15) (pc' := 90) rfl rfl (by decide) (by first | assumption | rfl) (hT.get 107 rfl) ?_
  refine wp_iconst (a := 0) (pc' := 91) rfl rfl rfl ?_
  refine wp_aload_n (pc' := 92) rfl rfl rfl (by decide) ?_
  refine wp_getI (ci := 10) (k0 := 11) (pc' := 95) rfl rfl (by decide) (by first | assumption | rfl) ?_
  refine wp_aload_n (pc' := 96) rfl rfl rfl (by decide) ?_
  refine wp_getR (r' := 111) (ci := 10) (k0 := 20) (pc' := 99) rfl rfl (by decide) (by first | assumption | rfl) (hT.get 109 rfl) ?_
  refine wp_iconst (a := 3) (pc' := 100) rfl rfl rfl ?_
  refine wp_iaload (pc' := 101) rfl rfl (by first | assumption | rfl) (by omega) ?_
  refine wp_imul (pc' := 102) rfl rfl (by first | exact w32_id (by omega) (by omega) | rfl) ?_
  refine wp_aload_n (pc' := 103) rfl rfl rfl (by decide) ?_
  refine wp_getR (r' := 111) (ci := 10) (k0 := 20) (pc' := 106) rfl rfl (by decide) (by first | assumption | rfl) (hT.get 109 rfl) ?_
  refine wp_iconst (a := 2) (pc' := 107) rfl rfl rfl ?_
  refine wp_iaload (pc' := 108) rfl rfl (by first | assumption | rfl) (by omega) ?_
  refine wp_iadd (pc' := 109) rfl rfl (by first | exact w32_id (by omega) (by omega) | rfl) ?_
  refine wp_iastore (pc' := 110) rfl rfl (by first | assumption | rfl) (by omega) ?_
  refine wp_iconst (a := 0) (pc' := 111) rfl rfl rfl ?_
  refine wp_istore_n (pc' := 112) rfl rfl (Nat.le_of_ble_eq_true rfl) rfl ?_
  dsimp only [lset, lset2, List.set, List.getElem?_cons_zero, List.getElem?_cons_succ]
  have hT2 := hT.putA (r := 109) (i := 0) (x := w 100 11 * w 111 3 + w 111 2) (by decide)
  refine l_Mland2 hT2 (by rw [up_ne (by decide)]; exact hc) (by rw [up_ne (by decide)]; exact hn) (fun j j0 j1 => by rw [up_ne (by decide)] at j1 ⊢; exact hb j j0 j1) (fun w1 hS k3 kp => ?_) (w 100 10).toNat 0 _ (by omega) (by rw [up_ne (by decide)]; omega) (Same.rf _ _) (fun j _ _ => rfl) (fun j a b => absurd b (by omega))
  refine r_land3 (hT2.same hS (by decide)) (fun w' hS' h23 h15 => ?_)
  have e9 : w' 109 = w1 109 := hS'.cell 109 (by decide) (by decide)
  refine K w' ((((SameF.rf w _ _).put (Or.inl (by decide))).tr (SameF.mono (hS.F []) (by decide) (by decide))).tr (SameF.mono hS' (by decide) (by decide))) h23 ?_ ?_ ?_ (fun j j0 j1 => ?_) h15
  · rw [e9, k3 0 (by decide) (by decide), up_eq]
  · rw [e9, k3 1 (by decide) (by decide), up_at (by decide)]
    exact hz 1 (by decide) (by decide)
  · rw [e9, k3 2 (by decide) (by decide), up_at (by decide)]
    exact hz 2 (by decide) (by decide)
  · have h9 := kp j j0 (by rw [up_ne (by decide)]; exact j1)
    rw [up_ne (show (112 : Int) ≠ 109 by decide), up_ne (show (100 : Int) ≠ 109 by decide)] at h9
    rw [e9, hS'.cell 107 (by decide) (by decide), hS'.cell 108 (by decide) (by decide)]
    exact h9
set_option maxRecDepth 20000 in
set_option maxHeartbeats 4000000 in
theorem r_land1 {w : Hp} {d : Nat} {t : Int} {x2 : Option PV} {Q : Option PV → Hp → Prop} (hT : Stc w) (hc : 3 ≤ w 100 11 ∧ w 100 11 ≤ 5) (hn : 0 ≤ w 100 10 ∧ w 100 10 ≤ 6) (hh : (0 ≤ w 111 3 ∧ w 111 3 ≤ 4) ∧ (0 ≤ w 111 2 ∧ w 111 2 ≤ 4)) (hb : ∀ j : Int, 0 ≤ j → j < w 100 10 → (0 ≤ w 112 (4 * j + 2) ∧ w 112 (4 * j + 2) ≤ 4) ∧ (0 ≤ w 112 (4 * j + 1) ∧ w 112 (4 * j + 1) ≤ 4)) (K : ∀ w' : Hp, SameF w w' [107, 108, 109, 115] [(100, 23)] → w' 100 23 = 0 → w' 109 0 = w 100 11 * w 111 3 + w 111 2 → w' 109 1 = 0 → w' 109 2 = 0 → (∀ j : Int, 0 ≤ j → j < w 100 10 → w' 107 j = w 112 (4 * j) ∧ w' 109 (3 + j) = w 100 11 * w 112 (4 * j + 2) + w 112 (4 * j + 1) ∧ w' 108 j = w 112 (4 * j + 3)) → (∀ k : Int, 0 ≤ k → k < 3 → w' 115 k = 0) → Q (some (vI (w' 100 10))) w') : WP SH d 166 65 [some (vR 100), some (vI t), x2] [] w Q := by
  refine wp_iconst (a := 0) (pc' := 66) rfl rfl rfl ?_
  refine wp_istore_n (pc' := 67) rfl rfl (Nat.le_of_ble_eq_true rfl) rfl ?_
  dsimp only [lset, lset2, List.set, List.getElem?_cons_zero, List.getElem?_cons_succ]
  refine l_Mland1 hT (fun w1 hS hz => ?_) 9 0 _ (by decide) (by decide) (Same.rf _ _) (fun j a b => absurd b (by omega))
  have e10 : w1 100 = w 100 := hS 100 (by decide)
  have e11 : w1 111 = w 111 := hS 111 (by decide)
  have e12 : w1 112 = w 112 := hS 112 (by decide)
  refine r_land2 (hT.same hS (by decide)) (by rw [e10]; exact hc) (by rw [e10]; exact hn) (by rw [e11]; exact hh) (by rw [e10, e12]; exact hb) hz (fun w' hS' a b c e f g => ?_)
  rw [e10, e11] at b
  rw [e10, e12] at f
  exact K w' ((SameF.mono (hS.F []) (by decide) (by decide)).tr hS') a b c e f g
theorem land_fin {w w1 w2 w3 w4 u1 u4 : Hp} {c l hx hy n : Int} {D : Int → Int × Int × Int × Int} (hI : Inv w) (hS1 : SameF w w1 [13, 14, 15] LF) (hB : BB w1 w2 3 12 7 8) (hS3 : SameF w2 w3 [] KFL) (hz3 : ∀ j : Int, 0 ≤ j → j < 3 → w3 (73 + 9 * j) 0 = 0) (hS2 : SameF w3 w4 [111, 112] FF3) (hS4 : SameF w4 u1 [] [(100, 10), (100, 11), (100, 12)]) (hS5 : SameF u1 u4 [107, 108, 109, 115] [(100, 23)]) (hc : 3 ≤ c ∧ c ≤ 5) (hl : 3 ≤ l ∧ l ≤ 5) (hn : 1 ≤ n ∧ n ≤ 6) (hhx : 0 ≤ hx ∧ hx ≤ c - 1) (hhy : 0 ≤ hy ∧ hy ≤ l - 1)
    (y0 : w1 12 0 = c) (y1 : w1 12 1 = l) (y2 : w1 12 2 = n) (y3 : w1 12 3 = c * hy + hx) (y4 : w1 12 4 = 0) (y5 : w1 12 5 = 0) (y6 : w1 12 6 = 0) (hDM : DM w1 c l D n) (k10 : u1 100 10 = n) (k11 : u1 100 11 = c) (k12 : u1 100 12 = l) (r23 : u4 100 23 = 0) (r0 : u4 109 0 = c * hy + hx) (r1 : u4 109 1 = 0) (r2 : u4 109 2 = 0) (ri : ∀ j : Int, 0 ≤ j → j < n → u4 107 j = (D j).1 ∧ u4 109 (3 + j) = c * (D j).2.2.1 + (D j).2.1 ∧ u4 108 j = (D j).2.2.2) (r15 : ∀ k : Int, 0 ≤ k → k < 3 → u4 115 k = 0) : u4 (-2) = w3 (-2) ∧ Inv u4 := by
  have e4 : ∀ q : Int, (q < 73 ∨ q = 73 ∨ q = 82 ∨ q = 91) → u4 q = w3 q := fun q hq => by
    rw [hS5.cell q (by simp; omega) (fun z hz => by simp at hz; subst hz; dsimp only; omega), hS4.cell q (by simp) (fun z hz => by simp at hz; rcases hz with rfl | rfl | rfl <;> (dsimp only; omega)), hS2.cell q (by simp; omega) (fun z hz => by simp [FF3] at hz; rcases hz with rfl | rfl | rfl <;> (dsimp only; omega))]
  have e3 : ∀ q : Int, q < 73 → w3 q = w2 q := fun q hq => hS3.cell q (by simp) (fun z hz => by
    have hz2 : KFL.all (fun z => decide (z.1 = 73 ∨ z.1 = 82 ∨ z.1 = 91)) = true := by decide
    have := of_decide_eq_true (List.all_eq_true.mp hz2 z hz)
    omega)
  have hA : SameF w u4 LL FL := (((((SameF.mono hS1 (by decide) (by decide)).tr (hB.same (Or.inl rfl))).tr (SameF.mono hS3 (by decide) (by decide))).tr (SameF.mono hS2 (by decide) (by decide))).tr (SameF.mono hS4 (by decide) (by decide))).tr (SameF.mono hS5 (by decide) (by decide))
  have f10 : ∀ k : Int, k ≠ 23 → u4 100 k = u1 100 k := fun k hk => hS5 100 k (by decide) (by simp; omega)
  have ht : u4 0 14 = u4 100 2 := by
    rw [e4 0 (by omega), e3 0 (by omega), hB.1 0 (by omega), hS1.cell 0 (by decide) (by decide), f10 2 (by decide), hS4 100 2 (by decide) (by decide), hS2 100 2 (by decide) (by decide), hS3.cell 100 (by decide) (by decide), hB.1 100 (by omega), hS1.cell 100 (by decide) (by decide)]
    exact hI.2.2.2.1
  refine ⟨e4 (-2) (by omega), land_end hI hA ht hc hl hn hhx hhy ?_ (fun i a b => (hDM i a b).2.2.2) (fun i a b => ?_) ⟨by rw [f10 10 (by decide), k10], by rw [f10 11 (by decide), k11], by rw [f10 12 (by decide), k12], r23, r0, r1, r2⟩ ri (fun k a b => ⟨r15 k a b, ?_⟩)⟩
  · have hb := hB.2.2.1
    rw [e4 3 (by omega), e3 3 (by omega), hb 0 (by decide) (by decide), hb 1 (by decide) (by decide), hb 2 (by decide) (by decide), hb 3 (by decide) (by decide), hb 4 (by decide) (by decide), hb 5 (by decide) (by decide), hb 6 (by decide) (by decide)]
    exact ⟨y0, y1, y2, y3, y4, y5, y6⟩
  · have hb := hB.2.2.2
    have h1 := hb 1 (by decide) (by decide) i a (by rw [if_pos (by decide), y2]; exact b)
    have h2 := hb 2 (by decide) (by decide) i a (by rw [if_pos (by decide), y2]; exact b)
    have h3 := hb 3 (by decide) (by decide) i a (by rw [if_pos (by decide), y2]; exact b)
    obtain ⟨q1, q2, q3, -⟩ := hDM i a b
    rw [e4 4 (by omega), e3 4 (by omega), e4 5 (by omega), e3 5 (by omega), e4 6 (by omega), e3 6 (by omega)]
    exact ⟨h1.trans q1, h2.trans q2, h3.trans q3⟩
  · have hk : k = 0 ∨ k = 1 ∨ k = 2 := by omega
    rw [e4 (73 + 9 * k) (by omega)]
    exact hz3 k a b
set_option maxRecDepth 20000 in
set_option maxHeartbeats 4000000 in
theorem p_land {w : Hp} {d : Nat} {t : Int} (hI : Inv w) : WP SH (d + 9) 89 0 [some (vR 0), some (vI t), none] [] w (fun v0 w1 => ∃ a, v0 = some (vI a) ∧ w1 (-2) = w (-2) ∧ WP SH (d + 9) 166 0 [some (vR 100), some (vI t), none] [] w1 (fun v2 w2 => v2 = some (vI a) ∧ w2 (-2) = w1 (-2) ∧ Inv w2)) := by
  obtain ⟨hT, hRO, hIF, hITo, hIR, hIT, hIL, hIK⟩ := id hI
  obtain ⟨hn25, b11, b12, b10, hn6, hem, m0, m1, m2, m23, hyr, hdd, hpre⟩ := hI.base
  have hmm : w 100 11 * w 100 12 = w 3 0 * w 3 1 := by rw [b11, b12]
  refine wp_iload_n (pc' := 1) rfl rfl rfl ?_
  refine wp_call (pc' := 4) rfl rfl rfl rfl rfl ⟨Nat.le_of_ble_eq_true rfl, Nat.le_of_ble_eq_true rfl, Nat.le_of_ble_eq_true rfl, Nat.le_of_ble_eq_true rfl, Nat.le_of_ble_eq_true rfl⟩ rfl (c_VH_isText) ?_
  rintro v1 w9 ⟨hw9, ⟨hv1, hbr⟩ | ⟨hv1, hbr⟩⟩
  · skip
    rw [hv1, hw9]
    clear hv1 hw9 v1 w9
    have hstr := strip_text hT hbr.1 hbr.2
    have hs7 := hstr.1.1
    have hitt := hIT t hbr.1 hbr.2
    dsimp only [Option.toList, List.cons_append, List.nil_append, List.append_nil]
    refine wp_if_ne (pc' := 7) (pt := 9) rfl rfl rfl (fun q_1 => ?_) (fun q_1 => absurd (by decide) q_1)
    refine wp_aload_n (pc' := 10) rfl rfl rfl (by decide) ?_
    refine wp_getR (r' := 2) (ci := 9) (k0 := 1) (pc' := 13) rfl rfl (by decide) (by first | assumption | rfl) (hT.get 1 rfl) ?_
    refine wp_iload_n (pc' := 14) rfl rfl rfl ?_
    refine wp_aaload (r' := (65 + 2 * t)) (pc' := 15) rfl rfl (by first | assumption | rfl) rfl (by omega) (hstr.2) ?_
    refine wp_call (pc' := 18) rfl rfl rfl rfl rfl ⟨Nat.le_of_ble_eq_true rfl, Nat.le_of_ble_eq_true rfl, Nat.le_of_ble_eq_true rfl, Nat.le_of_ble_eq_true rfl, Nat.le_of_ble_eq_true rfl⟩ (recv_strip hs7 (by decide)) (c_Strip_isMissing hstr.1) ?_
    rintro v1 w9 ⟨hw9, ⟨hv1, hms⟩ | ⟨hv1, hms⟩⟩
    · skip
      rw [hv1, hw9]
      clear hv1 hw9 v1 w9
      dsimp only [Option.toList, List.cons_append, List.nil_append, List.append_nil]
      refine wp_if_eq (pc' := 21) (pt := 27) rfl rfl rfl (fun q_2 => absurd q_2 (by decide)) (fun q_2 => ?_)
      refine wp_aload_n (pc' := 22) rfl rfl rfl (by decide) ?_
      refine wp_iconst (a := 1) (pc' := 23) rfl rfl rfl ?_
      refine wp_call (pc' := 26) rfl rfl rfl rfl rfl ⟨Nat.le_of_ble_eq_true rfl, Nat.le_of_ble_eq_true rfl, Nat.le_of_ble_eq_true rfl, Nat.le_of_ble_eq_true rfl, Nat.le_of_ble_eq_true rfl⟩ rfl (c_VH_refuse hT (by decide)) ?_
      intro v1 w9 hq1
      rw [hq1.1, hq1.2]
      clear hq1 v1 w9
      dsimp only [Option.toList, List.cons_append, List.nil_append, List.append_nil]
      refine wp_ret rfl rfl rfl ?_
      refine ⟨_, rfl, ?_, ?_⟩
      · rw [up_ne (by decide), up_ne (by decide)]
      change WP SH _ _ _ _ _ (refW w 1) _
      have hT := refW_stc (f := 1) hT
      have e5 : refW w 1 105 t = w 105 t := by rw [refW_ne (by decide) (by decide)]
      refine wp_iload_n (pc' := 1) rfl rfl rfl ?_
      refine wp_call (pc' := 4) rfl rfl rfl rfl rfl ⟨Nat.le_of_ble_eq_true rfl, Nat.le_of_ble_eq_true rfl, Nat.le_of_ble_eq_true rfl, Nat.le_of_ble_eq_true rfl, Nat.le_of_ble_eq_true rfl⟩ rfl (c_Mod_isText) ?_
      rintro v1 w9 ⟨hw9, ⟨hv1, hc1⟩ | ⟨hv1, hc1⟩⟩
      · skip
        rw [hv1, hw9]
        clear hv1 hw9 v1 w9
        dsimp only [Option.toList, List.cons_append, List.nil_append, List.append_nil]
        refine wp_if_ne (pc' := 7) (pt := 9) rfl rfl rfl (fun q_53 => ?_) (fun q_53 => absurd (by decide) q_53)
        refine wp_aload_n (pc' := 10) rfl rfl rfl (by decide) ?_
        refine wp_getR (r' := 105) (ci := 10) (k0 := 8) (pc' := 13) rfl rfl (by decide) (by first | assumption | rfl) (hT.get 103 rfl) ?_
        refine wp_iload_n (pc' := 14) rfl rfl rfl ?_
        refine wp_iaload (pc' := 15) rfl rfl (by first | assumption | rfl) (by omega) ?_
        refine wp_if_ge (pc' := 18) (pt := 24) rfl rfl rfl (fun q_54 => ?_) (fun q_54 => ?_)
        · skip
          exfalso; omega
        · skip
          refine wp_aload_n (pc' := 19) rfl rfl rfl (by decide) ?_
          refine wp_iconst (a := 1) (pc' := 20) rfl rfl rfl ?_
          refine wp_call (pc' := 23) rfl rfl rfl rfl rfl ⟨Nat.le_of_ble_eq_true rfl, Nat.le_of_ble_eq_true rfl, Nat.le_of_ble_eq_true rfl, Nat.le_of_ble_eq_true rfl, Nat.le_of_ble_eq_true rfl⟩ rfl (c_Mod_meets hT (by decide)) ?_
          intro v1 w9 hq1
          rw [hq1.1, hq1.2]
          clear hq1 v1 w9
          dsimp only [Option.toList, List.cons_append, List.nil_append, List.append_nil]
          refine wp_ret rfl rfl rfl ?_
          first
          | (exfalso; omega)
          | exact ⟨rfl, rfl, hI⟩
          | exact ⟨rfl, by rw [up_ne (by decide), up_ne (by decide)]; rfl, refW_inv hI (by decide)⟩
      · skip
        rw [hv1, hw9]
        clear hv1 hw9 v1 w9
        dsimp only [Option.toList, List.cons_append, List.nil_append, List.append_nil]
        refine wp_if_ne (pc' := 7) (pt := 9) rfl rfl rfl (fun q_55 => absurd q_55 (by decide)) (fun q_55 => ?_)
        exfalso; omega
    · skip
      rw [hv1, hw9]
      clear hv1 hw9 v1 w9
      have hzz : 0 ≤ w (65 + 2 * t) 1 ∧ w (65 + 2 * t) 1 ≤ 60 := by omega
      dsimp only [Option.toList, List.cons_append, List.nil_append, List.append_nil]
      refine wp_if_eq (pc' := 21) (pt := 27) rfl rfl rfl (fun q_56 => ?_) (fun q_56 => absurd (by decide) q_56)
      refine wp_aload_n (pc' := 28) rfl rfl rfl (by decide) ?_
      refine wp_getR (r' := 22) (ci := 9) (k0 := 5) (pc' := 31) rfl rfl (by decide) (by first | assumption | rfl) (hT.get 5 rfl) ?_
      refine wp_aload_n (pc' := 32) rfl rfl rfl (by decide) ?_
      refine wp_getR (r' := 2) (ci := 9) (k0 := 1) (pc' := 35) rfl rfl (by decide) (by first | assumption | rfl) (hT.get 1 rfl) ?_
      refine wp_iload_n (pc' := 36) rfl rfl rfl ?_
      refine wp_aaload (r' := (65 + 2 * t)) (pc' := 37) rfl rfl (by first | assumption | rfl) rfl (by omega) (hstr.2) ?_
      refine wp_aload_n (pc' := 38) rfl rfl rfl (by decide) ?_
      refine wp_getR (r' := 12) (ci := 9) (k0 := 3) (pc' := 41) rfl rfl (by decide) (by first | assumption | rfl) (hT.get 3 rfl) ?_
      refine wp_call (pc' := 44) rfl rfl rfl rfl rfl ⟨Nat.le_of_ble_eq_true rfl, Nat.le_of_ble_eq_true rfl, Nat.le_of_ble_eq_true rfl, Nat.le_of_ble_eq_true rfl, Nat.le_of_ble_eq_true rfl⟩ rfl (c_Rd_readLand hT hRO hstr.1 ⟨by omega, by omega⟩ rfl hzz (fun j a b => by have h9 := hitt.2.2 j a (by omega); rw [h9.1]; exact h9.2)) ?_
      rintro v1 w1 ⟨q, hq, hS1, ⟨hv1, hlt⟩ | ⟨hv1, heq, hb1, hb2, hb3, hb4, y0, y1, y2, y3, y4, y5, y6, y7, hDM⟩⟩
      · skip
        rw [hv1]
        clear hv1 v1
        have hQ1 : SameF w w1 LQ FQ := qry hS1 (by decide) (by decide)
        have hT1 : Stc w1 := hT.sameF hQ1 (by decide)
        have hhg0 := hE_ge (w (66 + 2 * t)) (w (65 + 2 * t) 1) q
        have hq00 := hq.1
        dsimp only [Option.toList, List.cons_append, List.nil_append, List.append_nil]
        refine wp_bipush (a := -9) (pc' := 46) rfl rfl rfl ?_
        refine wp_icmp_eq (pc' := 49) (pt := 52) rfl rfl rfl (fun q_57 => ?_) (fun q_57 => ?_)
        · skip
          exfalso; omega
        · skip
          refine wp_bipush (a := -4) (pc' := 51) rfl rfl rfl ?_
          refine wp_ret rfl rfl rfl ?_
          refine ⟨_, rfl, ?_, ?_⟩
          · exact hQ1.cell (-2) (by decide) (by decide)
          have hT := hT1
          have e5 : w1 105 = w 105 := hQ1.cell 105 (by decide) (by decide)
          have e5t : w1 105 t = w 105 t := by rw [e5]
          have e6 : w1 106 = w 106 := hQ1.cell 106 (by decide) (by decide)
          have hz0 : w1 105 t = w (65 + 2 * t) 1 := by rw [e5]; exact hitt.1.symm
          have hX1 : Tx w1 t (w (65 + 2 * t) 1) := ⟨hbr, hz0, hzz, fun j a b => by unfold mT; rw [e6]; exact (hitt.2.2 j a (by omega)).2⟩
          have hTT : ∀ j : Int, 0 ≤ j → j < w (65 + 2 * t) 1 → w (66 + 2 * t) j = mT w1 t j := fun j a b => by unfold mT; rw [e6]; exact (hitt.2.2 j a (by omega)).1
          have hq0 := hq.1
          have hhE := hE_congr hq0 hTT
          have hFf : fg (w (66 + 2 * t)) (w (65 + 2 * t) 1) (q + 1) 3 5 = fg (mT w1 t) (w (65 + 2 * t) 1) (q + 1) 3 5 := fg_congr (by omega) hTT
          have hFg : fg (w (66 + 2 * t)) (w (65 + 2 * t) 1) (q + 2) 3 5 = fg (mT w1 t) (w (65 + 2 * t) 1) (q + 2) 3 5 := fg_congr (by omega) hTT
          have hRRe : RR (w (66 + 2 * t)) (w (65 + 2 * t) 1) (fg (w (66 + 2 * t)) (w (65 + 2 * t) 1) (q + 1) 3 5) (fg (w (66 + 2 * t)) (w (65 + 2 * t) 1) (q + 2) 3 5) (q + 5) 0 D0 = RR (mT w1 t) (w (65 + 2 * t) 1) (fg (mT w1 t) (w (65 + 2 * t) 1) (q + 1) 3 5) (fg (mT w1 t) (w (65 + 2 * t) 1) (q + 2) 3 5) (q + 5) 0 D0 := by
            rw [hFf, hFg]
            exact rn_congr hTT 61 (q + 5) 0 D0 (by omega)
          have hhg := hE_ge (w (66 + 2 * t)) (w (65 + 2 * t) 1) q
          refine wp_iload_n (pc' := 1) rfl rfl rfl ?_
          refine wp_call (pc' := 4) rfl rfl rfl rfl rfl ⟨Nat.le_of_ble_eq_true rfl, Nat.le_of_ble_eq_true rfl, Nat.le_of_ble_eq_true rfl, Nat.le_of_ble_eq_true rfl, Nat.le_of_ble_eq_true rfl⟩ rfl (c_Mod_isText) ?_
          rintro v1 w9 ⟨hw9, ⟨hv1, hc1⟩ | ⟨hv1, hc1⟩⟩
          · skip
            rw [hv1, hw9]
            clear hv1 hw9 v1 w9
            dsimp only [Option.toList, List.cons_append, List.nil_append, List.append_nil]
            refine wp_if_ne (pc' := 7) (pt := 9) rfl rfl rfl (fun q_108 => ?_) (fun q_108 => absurd (by decide) q_108)
            refine wp_aload_n (pc' := 10) rfl rfl rfl (by decide) ?_
            refine wp_getR (r' := 105) (ci := 10) (k0 := 8) (pc' := 13) rfl rfl (by decide) (by first | assumption | rfl) (hT.get 103 rfl) ?_
            refine wp_iload_n (pc' := 14) rfl rfl rfl ?_
            refine wp_iaload (pc' := 15) rfl rfl (by first | assumption | rfl) (by omega) ?_
            refine wp_if_ge (pc' := 18) (pt := 24) rfl rfl rfl (fun q_109 => ?_) (fun q_109 => ?_)
            · skip
              refine wp_aload_n (pc' := 25) rfl rfl rfl (by decide) ?_
              refine wp_iload_n (pc' := 26) rfl rfl rfl ?_
              refine wp_call (pc' := 29) rfl rfl rfl rfl rfl ⟨Nat.le_of_ble_eq_true rfl, Nat.le_of_ble_eq_true rfl, Nat.le_of_ble_eq_true rfl, Nat.le_of_ble_eq_true rfl, Nat.le_of_ble_eq_true rfl⟩ rfl (c_Mod_faultOf hT hX1) ?_
              rintro v2 w4 ⟨q2, hq2, hS2, ⟨hv2, hlt2⟩ | ⟨hv2, heq2, hres2⟩⟩
              · skip
                rw [hv2]
                clear hv2 v2
                obtain rfl : q = q2 := (hq.congr (Int.le_refl 0) hTT).eq hq2
                have hT4 := hT.sameF hS2 (by decide)
                have hT := hT4
                have hR1 := congrArg Prod.fst hRRe
                dsimp only [Option.toList, List.cons_append, List.nil_append, List.append_nil]
                refine wp_bipush (a := -9) (pc' := 31) rfl rfl rfl ?_
                refine wp_icmp_eq (pc' := 34) (pt := 37) rfl rfl rfl (fun q_110 => ?_) (fun q_110 => ?_)
                · skip
                  exfalso; omega
                · skip
                  refine wp_bipush (a := -4) (pc' := 36) rfl rfl rfl ?_
                  refine wp_ret rfl rfl rfl ?_
                  first
                  | (exfalso; omega)
                  | (have hinv : Inv w4 := hI.query (hQ1.tr (qry hS2 (by decide) (by decide))) (by rw [hS2.cell 0 (by decide) (by decide), hS2 100 2 (by decide) (by decide), hS1.cell 0 (by decide) (by decide), hS1.cell 100 (by decide) (by decide)]; exact hITo)
                     exact ⟨rfl, hS2.cell (-2) (by decide) (by decide), hinv⟩)
              · skip
                exfalso
                obtain rfl : q = q2 := (hq.congr (Int.le_refl 0) hTT).eq hq2
                omega
            · skip
              exfalso; omega
          · skip
            rw [hv1, hw9]
            clear hv1 hw9 v1 w9
            dsimp only [Option.toList, List.cons_append, List.nil_append, List.append_nil]
            refine wp_if_ne (pc' := 7) (pt := 9) rfl rfl rfl (fun q_111 => absurd q_111 (by decide)) (fun q_111 => ?_)
            exfalso; omega
      · skip
        rw [hv1]
        clear hv1 v1
        have hQ1 : SameF w w1 LQ FQ := qry hS1 (by decide) (by decide)
        have hT1 : Stc w1 := hT.sameF hQ1 (by decide)
        have hT := hT1
        dsimp only [Option.toList, List.cons_append, List.nil_append, List.append_nil]
        refine wp_bipush (a := -9) (pc' := 46) rfl rfl rfl ?_
        refine wp_icmp_eq (pc' := 49) (pt := 52) rfl rfl rfl (fun q_112 => ?_) (fun q_112 => ?_)
        · skip
          refine wp_aload_n (pc' := 53) rfl rfl rfl (by decide) ?_
          refine wp_getR (r' := 3) (ci := 9) (k0 := 2) (pc' := 56) rfl rfl (by decide) (by first | assumption | rfl) (hT.get 2 rfl) ?_
          refine wp_aload_n (pc' := 57) rfl rfl rfl (by decide) ?_
          refine wp_getR (r' := 12) (ci := 9) (k0 := 3) (pc' := 60) rfl rfl (by decide) (by first | assumption | rfl) (hT.get 3 rfl) ?_
          refine wp_call (pc' := 63) rfl rfl rfl rfl rfl ⟨Nat.le_of_ble_eq_true rfl, Nat.le_of_ble_eq_true rfl, Nat.le_of_ble_eq_true rfl, Nat.le_of_ble_eq_true rfl, Nat.le_of_ble_eq_true rfl⟩ rfl (c_Land_become (land_at3 hT1) (land_at12 hT1) (by omega) (by omega) (by omega)) ?_
          rintro v1 w2 ⟨hv1, hB⟩
          rw [hv1]
          clear hv1 v1
          have hSB := hB.same (Or.inl rfl)
          have hT2 : Stc w2 := hT1.sameF hSB (by decide)
          dsimp only [Option.toList, List.cons_append, List.nil_append, List.append_nil]
          refine wp_iconst (a := 0) (pc' := 64) rfl rfl rfl ?_
          refine wp_istore_n (pc' := 65) rfl rfl (Nat.le_of_ble_eq_true rfl) rfl ?_
          dsimp only [lset, lset2, List.set, List.getElem?_cons_zero, List.getElem?_cons_succ]
          refine l_clears hT2 (fun w3 hS3 hz3 => ?_) 3 0 w2 (by decide) (by decide) (SameF.rf _ _ _) (fun j a b => absurd b (by omega))
          have hT := hT2.sameF hS3 (by decide)
          refine wp_aload_n (pc' := 86) rfl rfl rfl (by decide) ?_
          refine wp_getR (r' := 3) (ci := 9) (k0 := 2) (pc' := 89) rfl rfl (by decide) (by first | assumption | rfl) (hT.get 2 rfl) ?_
          refine wp_getI (ci := 3) (k0 := 2) (pc' := 92) rfl rfl (by decide) (by first | assumption | rfl) ?_
          refine wp_ret rfl rfl rfl ?_
          refine ⟨_, rfl, ?_, ?_⟩
          · rw [hS3.cell (-2) (by decide) (by decide), hB.1 (-2) (by omega)]; exact hQ1.cell (-2) (by decide) (by decide)
          have ew : ∀ r : Int, (r < 3 ∨ 99 < r) → w3 r = w1 r := fun r hr => by
            rw [hS3.cell r (by simp) (by simp [KFL]; omega), hB.1 r (by omega)]
          have hQu5 : w3 105 = w 105 := (ew 105 (by omega)).trans (hQ1.cell 105 (by decide) (by decide))
          have hQu6 : w3 106 = w 106 := (ew 106 (by omega)).trans (hQ1.cell 106 (by decide) (by decide))
          have e5 : w3 105 = w 105 := hQu5
          have e5t : w3 105 t = w 105 t := by rw [e5]
          have e6 : w3 106 = w 106 := hQu6
          have hz0 : w3 105 t = w (65 + 2 * t) 1 := by rw [e5]; exact hitt.1.symm
          have hX1 : Tx w3 t (w (65 + 2 * t) 1) := ⟨hbr, hz0, hzz, fun j a b => by unfold mT; rw [e6]; exact (hitt.2.2 j a (by omega)).2⟩
          have hTT : ∀ j : Int, 0 ≤ j → j < w (65 + 2 * t) 1 → w (66 + 2 * t) j = mT w3 t j := fun j a b => by unfold mT; rw [e6]; exact (hitt.2.2 j a (by omega)).1
          have hq0 := hq.1
          have hhE := hE_congr hq0 hTT
          have hFf : fg (w (66 + 2 * t)) (w (65 + 2 * t) 1) (q + 1) 3 5 = fg (mT w3 t) (w (65 + 2 * t) 1) (q + 1) 3 5 := fg_congr (by omega) hTT
          have hFg : fg (w (66 + 2 * t)) (w (65 + 2 * t) 1) (q + 2) 3 5 = fg (mT w3 t) (w (65 + 2 * t) 1) (q + 2) 3 5 := fg_congr (by omega) hTT
          have hRRe : RR (w (66 + 2 * t)) (w (65 + 2 * t) 1) (fg (w (66 + 2 * t)) (w (65 + 2 * t) 1) (q + 1) 3 5) (fg (w (66 + 2 * t)) (w (65 + 2 * t) 1) (q + 2) 3 5) (q + 5) 0 D0 = RR (mT w3 t) (w (65 + 2 * t) 1) (fg (mT w3 t) (w (65 + 2 * t) 1) (q + 1) 3 5) (fg (mT w3 t) (w (65 + 2 * t) 1) (q + 2) 3 5) (q + 5) 0 D0 := by
            rw [hFf, hFg]
            exact rn_congr hTT 61 (q + 5) 0 D0 (by omega)
          have hF3 : ∀ h : Int, fg (w (66 + 2 * t)) (w (65 + 2 * t) 1) (q + 3) 0 h = fg (mT w3 t) (w (65 + 2 * t) 1) (q + 3) 0 h := fun h => fg_congr (by omega) hTT
          have hF4 : ∀ h : Int, fg (w (66 + 2 * t)) (w (65 + 2 * t) 1) (q + 4) 0 h = fg (mT w3 t) (w (65 + 2 * t) 1) (q + 4) 0 h := fun h => fg_congr (by omega) hTT
          refine wp_iload_n (pc' := 1) rfl rfl rfl ?_
          refine wp_call (pc' := 4) rfl rfl rfl rfl rfl ⟨Nat.le_of_ble_eq_true rfl, Nat.le_of_ble_eq_true rfl, Nat.le_of_ble_eq_true rfl, Nat.le_of_ble_eq_true rfl, Nat.le_of_ble_eq_true rfl⟩ rfl (c_Mod_isText) ?_
          rintro v1 w9 ⟨hw9, ⟨hv1, hc1⟩ | ⟨hv1, hc1⟩⟩
          · skip
            rw [hv1, hw9]
            clear hv1 hw9 v1 w9
            dsimp only [Option.toList, List.cons_append, List.nil_append, List.append_nil]
            refine wp_if_ne (pc' := 7) (pt := 9) rfl rfl rfl (fun q_203 => ?_) (fun q_203 => absurd (by decide) q_203)
            refine wp_aload_n (pc' := 10) rfl rfl rfl (by decide) ?_
            refine wp_getR (r' := 105) (ci := 10) (k0 := 8) (pc' := 13) rfl rfl (by decide) (by first | assumption | rfl) (hT.get 103 rfl) ?_
            refine wp_iload_n (pc' := 14) rfl rfl rfl ?_
            refine wp_iaload (pc' := 15) rfl rfl (by first | assumption | rfl) (by omega) ?_
            refine wp_if_ge (pc' := 18) (pt := 24) rfl rfl rfl (fun q_204 => ?_) (fun q_204 => ?_)
            · skip
              refine wp_aload_n (pc' := 25) rfl rfl rfl (by decide) ?_
              refine wp_iload_n (pc' := 26) rfl rfl rfl ?_
              refine wp_call (pc' := 29) rfl rfl rfl rfl rfl ⟨Nat.le_of_ble_eq_true rfl, Nat.le_of_ble_eq_true rfl, Nat.le_of_ble_eq_true rfl, Nat.le_of_ble_eq_true rfl, Nat.le_of_ble_eq_true rfl⟩ rfl (c_Mod_faultOf hT hX1) ?_
              rintro v2 w4 ⟨q2, hq2, hS2, ⟨hv2, hlt2⟩ | ⟨hv2, heq2, hres2⟩⟩
              · skip
                exfalso
                obtain rfl : q = q2 := (hq.congr (Int.le_refl 0) hTT).eq hq2
                omega
              · skip
                rw [hv2]
                clear hv2 v2
                obtain rfl : q = q2 := (hq.congr (Int.le_refl 0) hTT).eq hq2
                have hT4 := hT.sameF hS2 (by decide)
                have hT := hT4
                have hR1 := congrArg Prod.fst hRRe
                dsimp only [Option.toList, List.cons_append, List.nil_append, List.append_nil]
                refine wp_bipush (a := -9) (pc' := 31) rfl rfl rfl ?_
                refine wp_icmp_eq (pc' := 34) (pt := 37) rfl rfl rfl (fun q_205 => ?_) (fun q_205 => ?_)
                · skip
                  refine wp_aload_n (pc' := 38) rfl rfl rfl (by decide) ?_
                  refine wp_aload_n (pc' := 39) rfl rfl rfl (by decide) ?_
                  refine wp_getI (ci := 10) (k0 := 18) (pc' := 42) rfl rfl (by decide) (by first | assumption | rfl) ?_
                  refine wp_putI (ci := 10) (k0 := 10) (pc' := 45) rfl rfl (by decide) (by first | assumption | rfl) ?_
                  refine wp_stc (hT.putF (by decide)) (fun hT => ?_)
                  refine wp_aload_n (pc' := 46) rfl rfl rfl (by decide) ?_
                  refine wp_aload_n (pc' := 47) rfl rfl rfl (by decide) ?_
                  refine wp_getR (r' := 111) (ci := 10) (k0 := 20) (pc' := 50) rfl rfl (by decide) (by first | assumption | rfl) (hT.get 109 rfl) ?_
                  refine wp_iconst (a := 0) (pc' := 51) rfl rfl rfl ?_
                  refine wp_iaload (pc' := 52) rfl rfl (by first | assumption | rfl) (by omega) ?_
                  refine wp_putI (ci := 10) (k0 := 11) (pc' := 55) rfl rfl (by decide) (by first | assumption | rfl) ?_
                  refine wp_stc (hT.putF (by decide)) (fun hT => ?_)
                  refine wp_aload_n (pc' := 56) rfl rfl rfl (by decide) ?_
                  refine wp_aload_n (pc' := 57) rfl rfl rfl (by decide) ?_
                  refine wp_getR (r' := 111) (ci := 10) (k0 := 20) (pc' := 60) rfl rfl (by decide) (by first | assumption | rfl) (hT.get 109 rfl) ?_
                  refine wp_iconst (a := 1) (pc' := 61) rfl rfl rfl ?_
                  refine wp_iaload (pc' := 62) rfl rfl (by first | assumption | rfl) (by omega) ?_
                  refine wp_putI (ci := 10) (k0 := 12) (pc' := 65) rfl rfl (by decide) (by first | assumption | rfl) ?_
                  refine wp_stc (hT.putF (by decide)) (fun hT => ?_)
                  refine wp_gen (fun u1 hu1 => ?_)
                  rw [← hu1] at hT
                  obtain ⟨m0, m1, m2, m3, m18, mMM⟩ := hres2
                  rw [← hRRe] at m18 mMM
                  have hc9 : (RR (w (66 + 2 * t)) (w (65 + 2 * t) 1) (fg (w (66 + 2 * t)) (w (65 + 2 * t) 1) (q + 1) 3 5) (fg (w (66 + 2 * t)) (w (65 + 2 * t) 1) (q + 2) 3 5) (q + 5) 0 D0).1 = -9 := by omega
                  have hne := rn_neg hzz.1 61 (q + 5) 0 D0 (by omega) (Int.le_refl 0) hc9
                  change (RR (w (66 + 2 * t)) (w (65 + 2 * t) 1) (fg (w (66 + 2 * t)) (w (65 + 2 * t) 1) (q + 1) 3 5) (fg (w (66 + 2 * t)) (w (65 + 2 * t) 1) (q + 2) 3 5) (q + 5) 0 D0).2.1 ≠ 0 at hne
                  rw [← hFf] at m0
                  rw [← hFg] at m1
                  rw [← hFf, ← hF3] at m2
                  rw [← hFg, ← hF4] at m3
                  generalize RR (w (66 + 2 * t)) (w (65 + 2 * t) 1) (fg (w (66 + 2 * t)) (w (65 + 2 * t) 1) (q + 1) 3 5) (fg (w (66 + 2 * t)) (w (65 + 2 * t) 1) (q + 2) 3 5) (q + 5) 0 D0 = R at *
                  generalize fg (w (66 + 2 * t)) (w (65 + 2 * t) 1) (q + 3) 0 (fg (w (66 + 2 * t)) (w (65 + 2 * t) 1) (q + 1) 3 5 - 1) = hx at *
                  generalize fg (w (66 + 2 * t)) (w (65 + 2 * t) 1) (q + 4) 0 (fg (w (66 + 2 * t)) (w (65 + 2 * t) 1) (q + 2) 3 5 - 1) = hy at *
                  generalize fg (w (66 + 2 * t)) (w (65 + 2 * t) 1) (q + 1) 3 5 = c at *
                  generalize fg (w (66 + 2 * t)) (w (65 + 2 * t) 1) (q + 2) 3 5 = l at *
                  rw [y2] at y7 hDM
                  have k10 : u1 100 10 = R.2.1 := by rw [hu1, up_at (by decide), up_at (by decide), up_eq, m18]
                  have k11 : u1 100 11 = c := by rw [hu1, up_at (by decide), up_eq, up_ne (by decide), m0]
                  have k12 : u1 100 12 = l := by rw [hu1, up_eq, up_ne (by decide), up_ne (by decide), m1]
                  have hS4 : SameF w4 u1 [] [(100, 10), (100, 11), (100, 12)] := by
                    rw [hu1]
                    exact ((((SameF.rf w4 _ _).put (Or.inr (by decide))).put (Or.inr (by decide))).put (Or.inr (by decide)))
                  have e11 : u1 111 = w4 111 := hS4.cell 111 (by decide) (by decide)
                  have e12 : u1 112 = w4 112 := hS4.cell 112 (by decide) (by decide)
                  refine r_land1 hT (by rw [k11]; exact hb1) (by rw [k10]; exact y7) (by rw [e11, m2, m3]; omega) (fun j j0 j1 => ?_) (fun u4 hS5 r23 r0 r1 r2 ri r15 => ?_)
                  · rw [k10] at j1
                    rw [e12, (mMM j j0 j1).2.1, (mMM j j0 j1).2.2.1]
                    have h9 := (hDM j j0 j1).2.2.2
                    omega
                  rw [k11, e11, m2, m3] at r0
                  have ri' : ∀ j : Int, 0 ≤ j → j < R.2.1 → u4 107 j = (R.2.2 j).1 ∧ u4 109 (3 + j) = c * (R.2.2 j).2.2.1 + (R.2.2 j).2.1 ∧ u4 108 j = (R.2.2 j).2.2.2 := fun j j0 j1 => by
                    have h9 := ri j j0 (by rw [k10]; exact j1)
                    rw [e12, k11, (mMM j j0 j1).1, (mMM j j0 j1).2.1, (mMM j j0 j1).2.2.1, (mMM j j0 j1).2.2.2] at h9
                    exact h9
                  have hed := land_fin hI hS1 hB hS3 hz3 hS2 hS4 hS5 hb1 hb2 (by omega) hb3 hb4 y0 y1 y2 y3 y4 y5 y6 hDM k10 k11 k12 r23 r0 r1 r2 ri' r15
                  refine ⟨?_, hed.1, hed.2⟩
                  rw [hS5 100 10 (by decide) (by decide), k10, hS3.cell 3 (by decide) (by decide), hB.2.2.1 2 (by decide) (by decide), y2]
                · skip
                  exfalso; omega
            · skip
              exfalso; omega
          · skip
            rw [hv1, hw9]
            clear hv1 hw9 v1 w9
            dsimp only [Option.toList, List.cons_append, List.nil_append, List.append_nil]
            refine wp_if_ne (pc' := 7) (pt := 9) rfl rfl rfl (fun q_206 => absurd q_206 (by decide)) (fun q_206 => ?_)
            exfalso; omega
        · skip
          refine wp_bipush (a := -4) (pc' := 51) rfl rfl rfl ?_
          refine wp_ret rfl rfl rfl ?_
          refine ⟨_, rfl, ?_, ?_⟩
          · exact hQ1.cell (-2) (by decide) (by decide)
          have hT := hT1
          have e5 : w1 105 = w 105 := hQ1.cell 105 (by decide) (by decide)
          have e5t : w1 105 t = w 105 t := by rw [e5]
          have e6 : w1 106 = w 106 := hQ1.cell 106 (by decide) (by decide)
          have hz0 : w1 105 t = w (65 + 2 * t) 1 := by rw [e5]; exact hitt.1.symm
          have hX1 : Tx w1 t (w (65 + 2 * t) 1) := ⟨hbr, hz0, hzz, fun j a b => by unfold mT; rw [e6]; exact (hitt.2.2 j a (by omega)).2⟩
          have hTT : ∀ j : Int, 0 ≤ j → j < w (65 + 2 * t) 1 → w (66 + 2 * t) j = mT w1 t j := fun j a b => by unfold mT; rw [e6]; exact (hitt.2.2 j a (by omega)).1
          have hq0 := hq.1
          have hhE := hE_congr hq0 hTT
          have hFf : fg (w (66 + 2 * t)) (w (65 + 2 * t) 1) (q + 1) 3 5 = fg (mT w1 t) (w (65 + 2 * t) 1) (q + 1) 3 5 := fg_congr (by omega) hTT
          have hFg : fg (w (66 + 2 * t)) (w (65 + 2 * t) 1) (q + 2) 3 5 = fg (mT w1 t) (w (65 + 2 * t) 1) (q + 2) 3 5 := fg_congr (by omega) hTT
          have hRRe : RR (w (66 + 2 * t)) (w (65 + 2 * t) 1) (fg (w (66 + 2 * t)) (w (65 + 2 * t) 1) (q + 1) 3 5) (fg (w (66 + 2 * t)) (w (65 + 2 * t) 1) (q + 2) 3 5) (q + 5) 0 D0 = RR (mT w1 t) (w (65 + 2 * t) 1) (fg (mT w1 t) (w (65 + 2 * t) 1) (q + 1) 3 5) (fg (mT w1 t) (w (65 + 2 * t) 1) (q + 2) 3 5) (q + 5) 0 D0 := by
            rw [hFf, hFg]
            exact rn_congr hTT 61 (q + 5) 0 D0 (by omega)
          have hhg := hE_ge (w (66 + 2 * t)) (w (65 + 2 * t) 1) q
          refine wp_iload_n (pc' := 1) rfl rfl rfl ?_
          refine wp_call (pc' := 4) rfl rfl rfl rfl rfl ⟨Nat.le_of_ble_eq_true rfl, Nat.le_of_ble_eq_true rfl, Nat.le_of_ble_eq_true rfl, Nat.le_of_ble_eq_true rfl, Nat.le_of_ble_eq_true rfl⟩ rfl (c_Mod_isText) ?_
          rintro v1 w9 ⟨hw9, ⟨hv1, hc1⟩ | ⟨hv1, hc1⟩⟩
          · skip
            rw [hv1, hw9]
            clear hv1 hw9 v1 w9
            dsimp only [Option.toList, List.cons_append, List.nil_append, List.append_nil]
            refine wp_if_ne (pc' := 7) (pt := 9) rfl rfl rfl (fun q_257 => ?_) (fun q_257 => absurd (by decide) q_257)
            refine wp_aload_n (pc' := 10) rfl rfl rfl (by decide) ?_
            refine wp_getR (r' := 105) (ci := 10) (k0 := 8) (pc' := 13) rfl rfl (by decide) (by first | assumption | rfl) (hT.get 103 rfl) ?_
            refine wp_iload_n (pc' := 14) rfl rfl rfl ?_
            refine wp_iaload (pc' := 15) rfl rfl (by first | assumption | rfl) (by omega) ?_
            refine wp_if_ge (pc' := 18) (pt := 24) rfl rfl rfl (fun q_258 => ?_) (fun q_258 => ?_)
            · skip
              refine wp_aload_n (pc' := 25) rfl rfl rfl (by decide) ?_
              refine wp_iload_n (pc' := 26) rfl rfl rfl ?_
              refine wp_call (pc' := 29) rfl rfl rfl rfl rfl ⟨Nat.le_of_ble_eq_true rfl, Nat.le_of_ble_eq_true rfl, Nat.le_of_ble_eq_true rfl, Nat.le_of_ble_eq_true rfl, Nat.le_of_ble_eq_true rfl⟩ rfl (c_Mod_faultOf hT hX1) ?_
              rintro v2 w4 ⟨q2, hq2, hS2, ⟨hv2, hlt2⟩ | ⟨hv2, heq2, hres2⟩⟩
              · skip
                exfalso
                obtain rfl : q = q2 := (hq.congr (Int.le_refl 0) hTT).eq hq2
                omega
              · skip
                rw [hv2]
                clear hv2 v2
                obtain rfl : q = q2 := (hq.congr (Int.le_refl 0) hTT).eq hq2
                have hT4 := hT.sameF hS2 (by decide)
                have hT := hT4
                have hR1 := congrArg Prod.fst hRRe
                dsimp only [Option.toList, List.cons_append, List.nil_append, List.append_nil]
                refine wp_bipush (a := -9) (pc' := 31) rfl rfl rfl ?_
                refine wp_icmp_eq (pc' := 34) (pt := 37) rfl rfl rfl (fun q_259 => ?_) (fun q_259 => ?_)
                · skip
                  exfalso; omega
                · skip
                  refine wp_bipush (a := -4) (pc' := 36) rfl rfl rfl ?_
                  refine wp_ret rfl rfl rfl ?_
                  first
                  | (exfalso; omega)
                  | (have hinv : Inv w4 := hI.query (hQ1.tr (qry hS2 (by decide) (by decide))) (by rw [hS2.cell 0 (by decide) (by decide), hS2 100 2 (by decide) (by decide), hS1.cell 0 (by decide) (by decide), hS1.cell 100 (by decide) (by decide)]; exact hITo)
                     exact ⟨rfl, hS2.cell (-2) (by decide) (by decide), hinv⟩)
            · skip
              exfalso; omega
          · skip
            rw [hv1, hw9]
            clear hv1 hw9 v1 w9
            dsimp only [Option.toList, List.cons_append, List.nil_append, List.append_nil]
            refine wp_if_ne (pc' := 7) (pt := 9) rfl rfl rfl (fun q_260 => absurd q_260 (by decide)) (fun q_260 => ?_)
            exfalso; omega
  · skip
    rw [hv1, hw9]
    clear hv1 hw9 v1 w9
    dsimp only [Option.toList, List.cons_append, List.nil_append, List.append_nil]
    refine wp_if_ne (pc' := 7) (pt := 9) rfl rfl rfl (fun q_261 => absurd q_261 (by decide)) (fun q_261 => ?_)
    refine wp_iconst (a := -1) (pc' := 8) rfl rfl rfl ?_
    refine wp_ret rfl rfl rfl ?_
    refine ⟨_, rfl, ?_, ?_⟩
    · rfl
    refine wp_iload_n (pc' := 1) rfl rfl rfl ?_
    refine wp_call (pc' := 4) rfl rfl rfl rfl rfl ⟨Nat.le_of_ble_eq_true rfl, Nat.le_of_ble_eq_true rfl, Nat.le_of_ble_eq_true rfl, Nat.le_of_ble_eq_true rfl, Nat.le_of_ble_eq_true rfl⟩ rfl (c_Mod_isText) ?_
    rintro v1 w9 ⟨hw9, ⟨hv1, hc1⟩ | ⟨hv1, hc1⟩⟩
    · skip
      rw [hv1, hw9]
      clear hv1 hw9 v1 w9
      dsimp only [Option.toList, List.cons_append, List.nil_append, List.append_nil]
      refine wp_if_ne (pc' := 7) (pt := 9) rfl rfl rfl (fun q_312 => ?_) (fun q_312 => absurd (by decide) q_312)
      exfalso; omega
    · skip
      rw [hv1, hw9]
      clear hv1 hw9 v1 w9
      dsimp only [Option.toList, List.cons_append, List.nil_append, List.append_nil]
      refine wp_if_ne (pc' := 7) (pt := 9) rfl rfl rfl (fun q_313 => absurd q_313 (by decide)) (fun q_313 => ?_)
      refine wp_iconst (a := -1) (pc' := 8) rfl rfl rfl ?_
      refine wp_ret rfl rfl rfl ?_
      first
      | (exfalso; omega)
      | exact ⟨rfl, rfl, hI⟩
      | exact ⟨rfl, by rw [up_ne (by decide), up_ne (by decide)]; rfl, refW_inv hI (by decide)⟩
