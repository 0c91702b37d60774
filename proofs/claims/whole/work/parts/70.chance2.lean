/-! chances, the class's side -/
theorem lCmp_eq (x y : Int) : lCmp x y = 0 ↔ x = y := by
  unfold lCmp
  (repeat' split) <;> omega
set_option maxRecDepth 20000 in
set_option maxHeartbeats 4000000 in
theorem l_gcd {w : Hp} {d : Nat} {x0 x2 : Int} : ∀ (k : Nat) (a b c : Int) (x9 : Option PV), 0 ≤ c → c + k ≤ 199 → 0 ≤ b → b < a → a < 9000000000000000000 → a * b < ((2 ^ k : Nat) : Int) → WP SH d 13 9 [some (vL x0), none, some (vL x2), none, some (vL a), none, some (vL b), none, some (vI c), x9, none] [] w (fun v w' => v = some (vL (eu (k + 1) a b)) ∧ w' = w) := by
  intro k
  induction k with
  | zero =>
    intro a b c x9 hc hck hb hba ha hm
    refine wp_iload (pc' := 11) rfl rfl rfl ?_
    refine wp_sipush (a := 200) (pc' := 14) rfl rfl rfl ?_
    refine wp_icmp_ge (pc' := 17) (pt := 45) rfl rfl rfl (fun q_1 => ?_) (fun q_1 => ?_)
    · skip
      refine wp_lload (pc' := 47) rfl rfl rfl ?_
      refine wp_ret rfl rfl rfl ?_
      exact ⟨by rw [eu, if_pos (by omega)], rfl⟩
    · skip
      refine wp_lload (pc' := 19) rfl rfl rfl ?_
      refine wp_lconst (a := 0) (pc' := 20) rfl rfl rfl ?_
      refine wp_lcmp (pc' := 21) rfl rfl rfl ?_
      have hlc := lCmp_eq b 0
      refine wp_if_eq (pc' := 24) (pt := 45) rfl rfl rfl (fun q_2 => ?_) (fun q_2 => ?_)
      · skip
        refine wp_lload (pc' := 47) rfl rfl rfl ?_
        refine wp_ret rfl rfl rfl ?_
        exact ⟨by rw [eu, if_pos (by omega)], rfl⟩
      · skip
        exfalso
        have h1 : 1 ≤ a := by omega
        have h2 : 1 * 1 ≤ a * b := Int.mul_le_mul h1 (by omega) (by decide) (by omega)
        have h3 : ((2 ^ 0 : Nat) : Int) = 1 := rfl
        omega
  | succ k ih =>
    intro a b c x9 hc hck hb hba ha hm
    refine wp_iload (pc' := 11) rfl rfl rfl ?_
    refine wp_sipush (a := 200) (pc' := 14) rfl rfl rfl ?_
    refine wp_icmp_ge (pc' := 17) (pt := 45) rfl rfl rfl (fun q_1 => ?_) (fun q_1 => ?_)
    · skip
      refine wp_lload (pc' := 47) rfl rfl rfl ?_
      refine wp_ret rfl rfl rfl ?_
      first
      | (exfalso; omega)
      | exact ⟨by rw [eu, if_pos (by omega)], rfl⟩
    · skip
      refine wp_lload (pc' := 19) rfl rfl rfl ?_
      refine wp_lconst (a := 0) (pc' := 20) rfl rfl rfl ?_
      refine wp_lcmp (pc' := 21) rfl rfl rfl ?_
      have hlc := lCmp_eq b 0
      refine wp_if_eq (pc' := 24) (pt := 45) rfl rfl rfl (fun q_2 => ?_) (fun q_2 => ?_)
      · skip
        refine wp_lload (pc' := 47) rfl rfl rfl ?_
        refine wp_ret rfl rfl rfl ?_
        first
        | (exfalso; omega)
        | exact ⟨by rw [eu, if_pos (by omega)], rfl⟩
      · skip
        refine wp_lload (pc' := 26) rfl rfl rfl ?_
        refine wp_lload (pc' := 28) rfl rfl rfl ?_
        refine wp_lrem (pc' := 29) rfl rfl (by omega) (by first | exact lRem_pos (by omega) (by omega) (by omega) | rfl) ?_
        refine wp_lstore (pc' := 31) rfl rfl (Nat.le_of_ble_eq_true rfl) rfl ?_
        dsimp only [lset, lset2, List.set, List.getElem?_cons_zero, List.getElem?_cons_succ]
        refine wp_lload (pc' := 33) rfl rfl rfl ?_
        refine wp_lstore (pc' := 35) rfl rfl (Nat.le_of_ble_eq_true rfl) rfl ?_
        dsimp only [lset, lset2, List.set, List.getElem?_cons_zero, List.getElem?_cons_succ]
        refine wp_lload (pc' := 37) rfl rfl rfl ?_
        refine wp_lstore (pc' := 39) rfl rfl (Nat.le_of_ble_eq_true rfl) rfl ?_
        dsimp only [lset, lset2, List.set, List.getElem?_cons_zero, List.getElem?_cons_succ]
        refine wp_iinc (pc' := 42) rfl rfl rfl (inc_id (by omega) (by omega)) rfl ?_
        dsimp only [lset, lset2, List.set, List.getElem?_cons_zero, List.getElem?_cons_succ]
        refine wp_goto (pc' := 9) rfl rfl ?_
        have hst := eu_step (k := k) (a := a) (b := b) (by omega) hm
        refine (ih b (a % b) _ _ (by omega) (by omega) hst.2.1 hst.2.2 (by omega) hst.1).mono (fun v w' hq => ⟨?_, hq.2⟩)
        have he : eu (k + 1 + 1) a b = eu (k + 1) b (a % b) := if_neg (show ¬ b = 0 by omega)
        rw [hq.1, he]
set_option maxRecDepth 20000 in
set_option maxHeartbeats 4000000 in
theorem c_Chance_gcd {w : Hp} {d : Nat} {a b : Int} (h : 0 ≤ a ∧ a < 274877906944 ∧ 0 < b ∧ b ≤ 2985984) : WP SH (d + 0) 13 0 [some (vL a), none, some (vL b), none, none, none, none, none, none, none, none] [] w (fun v w' => v = some (vL (eu 62 a b)) ∧ w' = w) := by
  refine wp_lload_n (pc' := 1) rfl rfl rfl ?_
  refine wp_lstore (pc' := 3) rfl rfl (Nat.le_of_ble_eq_true rfl) rfl ?_
  dsimp only [lset, lset2, List.set, List.getElem?_cons_zero, List.getElem?_cons_succ]
  refine wp_lload_n (pc' := 4) rfl rfl rfl ?_
  refine wp_lstore (pc' := 6) rfl rfl (Nat.le_of_ble_eq_true rfl) rfl ?_
  dsimp only [lset, lset2, List.set, List.getElem?_cons_zero, List.getElem?_cons_succ]
  refine wp_iconst (a := 0) (pc' := 7) rfl rfl rfl ?_
  refine wp_istore (pc' := 9) rfl rfl (Nat.le_of_ble_eq_true rfl) rfl ?_
  dsimp only [lset, lset2, List.set, List.getElem?_cons_zero, List.getElem?_cons_succ]
  refine wp_iload (pc' := 11) rfl rfl rfl ?_
  refine wp_sipush (a := 200) (pc' := 14) rfl rfl rfl ?_
  refine wp_icmp_ge (pc' := 17) (pt := 45) rfl rfl rfl (fun q_21 => absurd q_21 (by decide)) (fun q_21 => ?_)
  refine wp_lload (pc' := 19) rfl rfl rfl ?_
  refine wp_lconst (a := 0) (pc' := 20) rfl rfl rfl ?_
  refine wp_lcmp (pc' := 21) rfl rfl rfl ?_
  have hlc := lCmp_eq b 0
  refine wp_if_eq (pc' := 24) (pt := 45) rfl rfl rfl (fun q_22 => ?_) (fun q_22 => ?_)
  · skip
    exfalso; omega
  · skip
    refine wp_lload (pc' := 26) rfl rfl rfl ?_
    refine wp_lload (pc' := 28) rfl rfl rfl ?_
    refine wp_lrem (pc' := 29) rfl rfl (by omega) (by first | exact lRem_pos (by omega) (by omega) (by omega) | rfl) ?_
    refine wp_lstore (pc' := 31) rfl rfl (Nat.le_of_ble_eq_true rfl) rfl ?_
    dsimp only [lset, lset2, List.set, List.getElem?_cons_zero, List.getElem?_cons_succ]
    refine wp_lload (pc' := 33) rfl rfl rfl ?_
    refine wp_lstore (pc' := 35) rfl rfl (Nat.le_of_ble_eq_true rfl) rfl ?_
    dsimp only [lset, lset2, List.set, List.getElem?_cons_zero, List.getElem?_cons_succ]
    refine wp_lload (pc' := 37) rfl rfl rfl ?_
    refine wp_lstore (pc' := 39) rfl rfl (Nat.le_of_ble_eq_true rfl) rfl ?_
    dsimp only [lset, lset2, List.set, List.getElem?_cons_zero, List.getElem?_cons_succ]
    refine wp_iinc (pc' := 42) rfl rfl rfl (inc_id (by omega) (by omega)) rfl ?_
    dsimp only [lset, lset2, List.set, List.getElem?_cons_zero, List.getElem?_cons_succ]
    refine wp_goto (pc' := 9) rfl rfl ?_
    have h1 := Int.emod_nonneg a (show b ≠ 0 by omega)
    have h2 := Int.emod_lt_of_pos a h.2.2.1
    have h3 : a % b ≤ a := by
      have e1 := Int.emod_add_mul_ediv a b
      have e2 : 0 ≤ b * (a / b) := Int.mul_nonneg (by omega) (Int.ediv_nonneg h.1 (by omega))
      omega
    have h4 : b * (a % b) ≤ b * a := Int.mul_le_mul_of_nonneg_left h3 (by omega)
    have h5 : b * a ≤ 2985984 * 274877906944 := Int.mul_le_mul h.2.2.2 (by omega) h.1 (by decide)
    have he : eu 62 a b = eu 61 b (a % b) := if_neg (show ¬ b = 0 by omega)
    have h60 : ((2 ^ 60 : Nat) : Int) = 1152921504606846976 := by decide +kernel
    rw [he]
    exact l_gcd 60 b (a % b) 1 _ (by decide) (by decide) h1 h2 (by omega) (by omega)
set_option maxRecDepth 20000 in
set_option maxHeartbeats 4000000 in
theorem c_Chance_tell {w : Hp} {d : Nat} {u : Int} (h : 0 ≤ u ∧ u < 274877906944) (hw : 0 < w 50 3 ∧ w 50 3 ≤ 2985984) : WP SH (d + 1) 12 0 [some (vR 50), some (vL u), none, none, none] [] w (fun v w' => v = none ∧ w' = up (up w 50 0 (u / eu 62 u (w 50 3))) 50 1 (w 50 3 / eu 62 u (w 50 3))) := by
  have hge := eu_pos 62 u (w 50 3) (by omega) h.1 (Or.inr hw.1) (fun z => absurd z (by decide))
  refine wp_lload_n (pc' := 1) rfl rfl rfl ?_
  refine wp_aload_n (pc' := 2) rfl rfl rfl (by decide) ?_
  refine wp_getL (ci := 1) (k0 := 3) (pc' := 5) rfl rfl (by decide) (by first | assumption | rfl) ?_
  refine wp_call (pc' := 8) rfl rfl rfl rfl rfl ⟨Nat.le_of_ble_eq_true rfl, Nat.le_of_ble_eq_true rfl, Nat.le_of_ble_eq_true rfl, Nat.le_of_ble_eq_true rfl, Nat.le_of_ble_eq_true rfl⟩ rfl (c_Chance_gcd (by omega)) ?_
  intro v1 w9 hq1
  rw [hq1.1, hq1.2]
  clear hq1 v1 w9
  dsimp only [Option.toList, List.cons_append, List.nil_append, List.append_nil]
  refine wp_lstore_n (pc' := 9) rfl rfl (Nat.le_of_ble_eq_true rfl) rfl ?_
  dsimp only [lset, lset2, List.set, List.getElem?_cons_zero, List.getElem?_cons_succ]
  refine wp_lload_n (pc' := 10) rfl rfl rfl ?_
  refine wp_lconst (a := 0) (pc' := 11) rfl rfl rfl ?_
  refine wp_lcmp (pc' := 12) rfl rfl rfl ?_
  have hlc := lCmp_gt (eu 62 u (w 50 3)) 0
  refine wp_if_le (pc' := 15) (pt := 32) rfl rfl rfl (fun q_1 => ?_) (fun q_1 => ?_)
  · skip
    refine wp_ret rfl rfl rfl ?_
    first
    | exact ⟨rfl, rfl⟩
    | (exfalso; omega)
  · skip
    refine wp_aload_n (pc' := 16) rfl rfl rfl (by decide) ?_
    refine wp_lload_n (pc' := 17) rfl rfl rfl ?_
    refine wp_lload_n (pc' := 18) rfl rfl rfl ?_
    refine wp_ldiv (pc' := 19) rfl rfl (by omega) (by first | exact lDiv_pos (by omega) (by omega) (by omega) | rfl) ?_
    refine wp_putL (ci := 1) (k0 := 0) (pc' := 22) rfl rfl (by decide) (by first | assumption | rfl) ?_
    refine wp_aload_n (pc' := 23) rfl rfl rfl (by decide) ?_
    refine wp_aload_n (pc' := 24) rfl rfl rfl (by decide) ?_
    refine wp_getL (ci := 1) (k0 := 3) (pc' := 27) rfl rfl (by decide) (by first | assumption | rfl) ?_
    rw [up_at (show (3 : Int) ≠ 0 by decide)]
    refine wp_lload_n (pc' := 28) rfl rfl rfl ?_
    refine wp_ldiv (pc' := 29) rfl rfl (by omega) (by first | exact lDiv_pos (by omega) (by omega) (by omega) | rfl) ?_
    refine wp_putL (ci := 1) (k0 := 1) (pc' := 32) rfl rfl (by decide) (by first | assumption | rfl) ?_
    refine wp_ret rfl rfl rfl ?_
    first
    | exact ⟨rfl, rfl⟩
    | (exfalso; omega)
set_option maxRecDepth 20000 in
set_option maxHeartbeats 4000000 in
theorem l_weightOf {w : Hp} {d : Nat} {s p : Int} (hT : Stc w) (hn : 0 ≤ w 3 2 ∧ w 3 2 ≤ 6) (hp : 0 ≤ p ∧ p ≤ 12) : ∀ (k m : Nat) (x y : Int) (x7 : Option PV), y = m → m + k = (w 3 2).toNat → x = prodN (fA (w 24) p s) m → WP SH d 11 6 [some (vR 3), some (vR 23), some (vI s), some (vI p), some (vL x), none, some (vI y), x7] [] w (fun v w' => v = some (vL (prodN (fA (w 24) p s) (w 3 2).toNat)) ∧ w' = w) := by
  intro k
  induction k with
  | zero =>
    intro m x y x7 hy hmk hx
    have hbd := @wtA_in (w 24) p s m hp (by omega)
    rw [← hx] at hbd
    have hbt : iAnd (iShr s y) 1 = bit s y := rfl
    have hb1 := bit01 s y
    have hm1 : 0 ≤ x * p ∧ x * p ≤ 2985984 * 12 := mul_bd hbd.1 hbd.2 hp.1 hp.2
    have hm2 : 0 ≤ x * (12 - p) ∧ x * (12 - p) ≤ 2985984 * 12 := mul_bd hbd.1 hbd.2 (by omega) (by omega)
    refine wp_iload (pc' := 8) rfl rfl rfl ?_
    refine wp_aload_n (pc' := 9) rfl rfl rfl (by decide) ?_
    refine wp_getI (ci := 3) (k0 := 2) (pc' := 12) rfl rfl (by decide) (by first | assumption | rfl) ?_
    refine wp_icmp_ge (pc' := 15) (pt := 87) rfl rfl rfl (fun q_1 => ?_) (fun q_1 => ?_)
    · skip
      refine wp_lload (pc' := 89) rfl rfl rfl ?_
      refine wp_ret rfl rfl rfl ?_
      obtain rfl : m = (w 3 2).toNat := by omega
      exact ⟨by rw [hx], rfl⟩
    · skip
      exfalso; omega
  | succ k ih =>
    intro m x y x7 hy hmk hx
    have hbd := @wtA_in (w 24) p s m hp (by omega)
    rw [← hx] at hbd
    have hbt : iAnd (iShr s y) 1 = bit s y := rfl
    have hb1 := bit01 s y
    have hm1 : 0 ≤ x * p ∧ x * p ≤ 2985984 * 12 := mul_bd hbd.1 hbd.2 hp.1 hp.2
    have hm2 : 0 ≤ x * (12 - p) ∧ x * (12 - p) ≤ 2985984 * 12 := mul_bd hbd.1 hbd.2 (by omega) (by omega)
    refine wp_iload (pc' := 8) rfl rfl rfl ?_
    refine wp_aload_n (pc' := 9) rfl rfl rfl (by decide) ?_
    refine wp_getI (ci := 3) (k0 := 2) (pc' := 12) rfl rfl (by decide) (by first | assumption | rfl) ?_
    refine wp_icmp_ge (pc' := 15) (pt := 87) rfl rfl rfl (fun q_1 => ?_) (fun q_1 => ?_)
    · skip
      exfalso; omega
    · skip
      refine wp_iload_n (pc' := 16) rfl rfl rfl ?_
      refine wp_iload (pc' := 18) rfl rfl rfl ?_
      refine wp_ishr (pc' := 19) rfl rfl rfl ?_
      refine wp_iconst (a := 1) (pc' := 20) rfl rfl rfl ?_
      refine wp_iand (pc' := 21) rfl rfl rfl ?_
      refine wp_if_eq (pc' := 24) (pt := 28) rfl rfl rfl (fun q_2 => ?_) (fun q_2 => ?_)
      · skip
        refine wp_iconst (a := 0) (pc' := 29) rfl rfl rfl ?_
        refine wp_istore (pc' := 31) rfl rfl (Nat.le_of_ble_eq_true rfl) rfl ?_
        dsimp only [lset, lset2, List.set, List.getElem?_cons_zero, List.getElem?_cons_succ]
        refine wp_aload_n (pc' := 32) rfl rfl rfl (by decide) ?_
        refine wp_getR (r' := 24) (ci := 0) (k0 := 0) (pc' := 35) rfl rfl (by decide) (by first | assumption | rfl) (hT.get 42 rfl) ?_
        refine wp_iload (pc' := 37) rfl rfl rfl ?_
        refine wp_iaload (pc' := 38) rfl rfl (by first | assumption | rfl) (by omega) ?_
        refine wp_bipush (a := -9) (pc' := 40) rfl rfl rfl ?_
        refine wp_icmp_ne (pc' := 43) (pt := 61) rfl rfl rfl (fun q_3 => ?_) (fun q_3 => ?_)
        · skip
          refine wp_lload (pc' := 63) rfl rfl rfl ?_
          refine wp_iload (pc' := 65) rfl rfl rfl ?_
          refine wp_if_eq (pc' := 68) (pt := 73) rfl rfl rfl (fun q_4 => ?_) (fun q_4 => absurd (by decide) q_4)
          refine wp_bipush (a := 12) (pc' := 75) rfl rfl rfl ?_
          refine wp_iload_n (pc' := 76) rfl rfl rfl ?_
          refine wp_isub (pc' := 77) rfl rfl (by first | exact w32_id (by omega) (by omega) | rfl) ?_
          refine wp_i2l (pc' := 78) rfl rfl ?_
          refine wp_lmul (pc' := 79) rfl rfl (by first | exact w64_id (by omega) (by omega) | rfl) ?_
          refine wp_lstore (pc' := 81) rfl rfl (Nat.le_of_ble_eq_true rfl) rfl ?_
          dsimp only [lset, lset2, List.set, List.getElem?_cons_zero, List.getElem?_cons_succ]
          refine wp_iinc (pc' := 84) rfl rfl rfl (inc_id (by omega) (by omega)) rfl ?_
          dsimp only [lset, lset2, List.set, List.getElem?_cons_zero, List.getElem?_cons_succ]
          refine wp_goto (pc' := 6) rfl rfl ?_
          refine ih (m + 1) _ _ _ (by omega) (by omega) ?_
          subst hy
          rw [prodN, ← hx]
          unfold fA
          first
          | (exfalso; omega)
          | (rw [if_pos (show w 24 (m : Int) = -9 by omega), if_pos (by omega)])
          | (rw [if_pos (show w 24 (m : Int) = -9 by omega), if_neg (by omega)])
          | (rw [if_neg (show ¬ w 24 (m : Int) = -9 by omega), if_pos (by omega)])
          | (rw [if_neg (show ¬ w 24 (m : Int) = -9 by omega), if_neg (by omega)])
        · skip
          refine wp_lload (pc' := 45) rfl rfl rfl ?_
          refine wp_iload (pc' := 47) rfl rfl rfl ?_
          refine wp_if_eq (pc' := 50) (pt := 54) rfl rfl rfl (fun q_5 => ?_) (fun q_5 => absurd (by decide) q_5)
          refine wp_lconst (a := 1) (pc' := 55) rfl rfl rfl ?_
          refine wp_lmul (pc' := 56) rfl rfl (by first | exact w64_id (by omega) (by omega) | rfl) ?_
          refine wp_lstore (pc' := 58) rfl rfl (Nat.le_of_ble_eq_true rfl) rfl ?_
          dsimp only [lset, lset2, List.set, List.getElem?_cons_zero, List.getElem?_cons_succ]
          refine wp_goto (pc' := 81) rfl rfl ?_
          refine wp_iinc (pc' := 84) rfl rfl rfl (inc_id (by omega) (by omega)) rfl ?_
          dsimp only [lset, lset2, List.set, List.getElem?_cons_zero, List.getElem?_cons_succ]
          refine wp_goto (pc' := 6) rfl rfl ?_
          refine ih (m + 1) _ _ _ (by omega) (by omega) ?_
          subst hy
          rw [prodN, ← hx]
          unfold fA
          first
          | (exfalso; omega)
          | (rw [if_pos (show w 24 (m : Int) = -9 by omega), if_pos (by omega)])
          | (rw [if_pos (show w 24 (m : Int) = -9 by omega), if_neg (by omega)])
          | (rw [if_neg (show ¬ w 24 (m : Int) = -9 by omega), if_pos (by omega)])
          | (rw [if_neg (show ¬ w 24 (m : Int) = -9 by omega), if_neg (by omega)])
      · skip
        refine wp_iconst (a := 1) (pc' := 25) rfl rfl rfl ?_
        refine wp_goto (pc' := 29) rfl rfl ?_
        refine wp_istore (pc' := 31) rfl rfl (Nat.le_of_ble_eq_true rfl) rfl ?_
        dsimp only [lset, lset2, List.set, List.getElem?_cons_zero, List.getElem?_cons_succ]
        refine wp_aload_n (pc' := 32) rfl rfl rfl (by decide) ?_
        refine wp_getR (r' := 24) (ci := 0) (k0 := 0) (pc' := 35) rfl rfl (by decide) (by first | assumption | rfl) (hT.get 42 rfl) ?_
        refine wp_iload (pc' := 37) rfl rfl rfl ?_
        refine wp_iaload (pc' := 38) rfl rfl (by first | assumption | rfl) (by omega) ?_
        refine wp_bipush (a := -9) (pc' := 40) rfl rfl rfl ?_
        refine wp_icmp_ne (pc' := 43) (pt := 61) rfl rfl rfl (fun q_6 => ?_) (fun q_6 => ?_)
        · skip
          refine wp_lload (pc' := 63) rfl rfl rfl ?_
          refine wp_iload (pc' := 65) rfl rfl rfl ?_
          refine wp_if_eq (pc' := 68) (pt := 73) rfl rfl rfl (fun q_7 => absurd q_7 (by decide)) (fun q_7 => ?_)
          refine wp_iload_n (pc' := 69) rfl rfl rfl ?_
          refine wp_i2l (pc' := 70) rfl rfl ?_
          refine wp_goto (pc' := 78) rfl rfl ?_
          refine wp_lmul (pc' := 79) rfl rfl (by first | exact w64_id (by omega) (by omega) | rfl) ?_
          refine wp_lstore (pc' := 81) rfl rfl (Nat.le_of_ble_eq_true rfl) rfl ?_
          dsimp only [lset, lset2, List.set, List.getElem?_cons_zero, List.getElem?_cons_succ]
          refine wp_iinc (pc' := 84) rfl rfl rfl (inc_id (by omega) (by omega)) rfl ?_
          dsimp only [lset, lset2, List.set, List.getElem?_cons_zero, List.getElem?_cons_succ]
          refine wp_goto (pc' := 6) rfl rfl ?_
          refine ih (m + 1) _ _ _ (by omega) (by omega) ?_
          subst hy
          rw [prodN, ← hx]
          unfold fA
          first
          | (exfalso; omega)
          | (rw [if_pos (show w 24 (m : Int) = -9 by omega), if_pos (by omega)])
          | (rw [if_pos (show w 24 (m : Int) = -9 by omega), if_neg (by omega)])
          | (rw [if_neg (show ¬ w 24 (m : Int) = -9 by omega), if_pos (by omega)])
          | (rw [if_neg (show ¬ w 24 (m : Int) = -9 by omega), if_neg (by omega)])
        · skip
          refine wp_lload (pc' := 45) rfl rfl rfl ?_
          refine wp_iload (pc' := 47) rfl rfl rfl ?_
          refine wp_if_eq (pc' := 50) (pt := 54) rfl rfl rfl (fun q_8 => absurd q_8 (by decide)) (fun q_8 => ?_)
          refine wp_lconst (a := 0) (pc' := 51) rfl rfl rfl ?_
          refine wp_goto (pc' := 55) rfl rfl ?_
          refine wp_lmul (pc' := 56) rfl rfl (by first | exact w64_id (by omega) (by omega) | rfl) ?_
          refine wp_lstore (pc' := 58) rfl rfl (Nat.le_of_ble_eq_true rfl) rfl ?_
          dsimp only [lset, lset2, List.set, List.getElem?_cons_zero, List.getElem?_cons_succ]
          refine wp_goto (pc' := 81) rfl rfl ?_
          refine wp_iinc (pc' := 84) rfl rfl rfl (inc_id (by omega) (by omega)) rfl ?_
          dsimp only [lset, lset2, List.set, List.getElem?_cons_zero, List.getElem?_cons_succ]
          refine wp_goto (pc' := 6) rfl rfl ?_
          refine ih (m + 1) _ _ _ (by omega) (by omega) ?_
          subst hy
          rw [prodN, ← hx]
          unfold fA
          first
          | (exfalso; omega)
          | (rw [if_pos (show w 24 (m : Int) = -9 by omega), if_pos (by omega)])
          | (rw [if_pos (show w 24 (m : Int) = -9 by omega), if_neg (by omega)])
          | (rw [if_neg (show ¬ w 24 (m : Int) = -9 by omega), if_pos (by omega)])
          | (rw [if_neg (show ¬ w 24 (m : Int) = -9 by omega), if_neg (by omega)])
set_option maxRecDepth 20000 in
set_option maxHeartbeats 4000000 in
theorem c_Chance_weightOf {w : Hp} {d : Nat} {s p : Int} (hT : Stc w) (hn : 0 ≤ w 3 2 ∧ w 3 2 ≤ 6) (hp : 0 ≤ p ∧ p ≤ 12) : WP SH (d + 0) 11 0 [some (vR 3), some (vR 23), some (vI s), some (vI p), none, none, none, none] [] w (fun v w' => v = some (vL (prodN (fA (w 24) p s) (w 3 2).toNat)) ∧ w' = w) := by
  refine wp_lconst (a := 1) (pc' := 1) rfl rfl rfl ?_
  refine wp_lstore (pc' := 3) rfl rfl (Nat.le_of_ble_eq_true rfl) rfl ?_
  dsimp only [lset, lset2, List.set, List.getElem?_cons_zero, List.getElem?_cons_succ]
  refine wp_iconst (a := 0) (pc' := 4) rfl rfl rfl ?_
  refine wp_istore (pc' := 6) rfl rfl (Nat.le_of_ble_eq_true rfl) rfl ?_
  dsimp only [lset, lset2, List.set, List.getElem?_cons_zero, List.getElem?_cons_succ]
  exact l_weightOf hT hn hp (w 3 2).toNat 0 _ _ _ rfl (by omega) rfl
set_option maxRecDepth 20000 in
set_option maxHeartbeats 4000000 in
theorem l_weigh1 {w : Hp} {d : Nat} {p : Int} {Q : Option PV → Hp → Prop} (hT0 : Stc w) (K : ∀ w1 : Hp, SameF w w1 [51] [(50, 3)] → (∀ j : Int, 0 ≤ j → j < 5 → w1 51 j = 0) → w1 50 3 = 0 → WP SH (d + 1) 10 28 [some (vR 50), some (vR 3), some (vR 23), some (vI p), some (vI 5), none, none] [] w1 Q) : ∀ (k : Nat) (y : Int) (w1 : Hp), 0 ≤ y → y + k = 5 → SameF w w1 [51] [(50, 3)] → (∀ j : Int, 0 ≤ j → j < y → w1 51 j = 0) → w1 50 3 = 0 → WP SH (d + 1) 10 8 [some (vR 50), some (vR 3), some (vR 23), some (vI p), some (vI y), none, none] [] w1 Q := by
  intro k
  induction k with
  | zero =>
    intro y w1 h0 hyk hS hz h3
    have hT := hT0.sameF hS (by decide)
    refine wp_iload (pc' := 10) rfl rfl rfl ?_
    refine wp_iconst (a := 5) (pc' := 11) rfl rfl rfl ?_
    refine wp_icmp_ge (pc' := 14) (pt := 28) rfl rfl rfl (fun q_1 => ?_) (fun q_1 => ?_)
    · skip
      obtain rfl : y = 5 := by omega
      exact K w1 hS hz h3
    · skip
      exfalso; omega
  | succ k ih =>
    intro y w1 h0 hyk hS hz h3
    have hT := hT0.sameF hS (by decide)
    refine wp_iload (pc' := 10) rfl rfl rfl ?_
    refine wp_iconst (a := 5) (pc' := 11) rfl rfl rfl ?_
    refine wp_icmp_ge (pc' := 14) (pt := 28) rfl rfl rfl (fun q_1 => ?_) (fun q_1 => ?_)
    · skip
      exfalso; omega
    · skip
      refine wp_aload_n (pc' := 15) rfl rfl rfl (by decide) ?_
      refine wp_getR (r' := 51) (ci := 1) (k0 := 2) (pc' := 18) rfl rfl (by decide) (by first | assumption | rfl) (hT.get 64 rfl) ?_
      refine wp_iload (pc' := 20) rfl rfl rfl ?_
      refine wp_lconst (a := 0) (pc' := 21) rfl rfl rfl ?_
      refine wp_lastore (pc' := 22) rfl rfl (by first | assumption | rfl) (by omega) ?_
      refine wp_iinc (pc' := 25) rfl rfl rfl (inc_id (by omega) (by omega)) rfl ?_
      dsimp only [lset, lset2, List.set, List.getElem?_cons_zero, List.getElem?_cons_succ]
      refine wp_goto (pc' := 8) rfl rfl ?_
      refine ih (y + 1) _ (by omega) (by omega) (hS.put (Or.inl (by decide))) (fun j j0 j1 => ?_) (by rw [up_ne (by decide)]; exact h3)
      by_cases hj : j = y
      · rw [hj, up_eq]
      · rw [up_at hj]
        exact hz j j0 (by omega)
set_option maxRecDepth 20000 in
set_option maxHeartbeats 4000000 in
theorem l_weigh2 {w : Hp} {d : Nat} {p : Int} (hT0 : Stc w) (hn : 1 ≤ w 3 2 ∧ w 3 2 ≤ 6) (hg : ∀ j : Int, 0 ≤ j → j < w 3 2 → 1 ≤ w 6 j ∧ w 6 j ≤ 9) (hp : 0 ≤ p ∧ p ≤ 12) : ∀ (k m : Nat) (y : Int) (w1 : Hp) (x5 x6 : Option PV), y = m → m + k = (iShl 1 (w 3 2)).toNat → SameF w w1 [25, 51] [(50, 3)] → (∀ j : Int, 0 ≤ j → j < 5 → w1 51 j = sumI (fun s => if wnA (w 3 2) (w 24) (w 6) s = j then prodN (fA (w 24) p s) (w 3 2).toNat else 0) y) → w1 50 3 = sumI (fun s => prodN (fA (w 24) p s) (w 3 2).toNat) y → WP SH (d + 1) 10 31 [some (vR 50), some (vR 3), some (vR 23), some (vI p), some (vI y), x5, x6] [] w1 (fun v w' => v = none ∧ SameF w w' [25, 51] [(50, 3)] ∧ (∀ j : Int, 0 ≤ j → j < 5 → w' 51 j = sumI (fun s => if wnA (w 3 2) (w 24) (w 6) s = j then prodN (fA (w 24) p s) (w 3 2).toNat else 0) (iShl 1 (w 3 2))) ∧ w' 50 3 = sumI (fun s => prodN (fA (w 24) p s) (w 3 2).toNat) (iShl 1 (w 3 2))) := by
  intro k
  induction k with
  | zero =>
    intro m y w1 x5 x6 hy hmk hS hz h3
    have hT := hT0.sameF hS (by decide)
    have e3 : w1 3 = w 3 := hS.cell 3 (by decide) (by decide)
    have e32 : w1 3 2 = w 3 2 := by rw [e3]
    have e6 : w1 6 = w 6 := hS.cell 6 (by decide) (by decide)
    have e24 : w1 24 = w 24 := hS.cell 24 (by decide) (by decide)
    have hsh := shl1 hn
    have hsh1 : iShl 1 (w1 3 2) = iShl 1 (w 3 2) := by rw [e3]
    have hwt := @wtA_in (w 24) p y (w 3 2).toNat hp (by omega)
    have hb3 := @sumI_bd (fun s => prodN (fA (w 24) p s) (w 3 2).toNat) 0 2985984 y (by omega) (fun j _ _ => @wtA_in (w 24) p j (w 3 2).toNat hp (by omega))
    rw [← h3] at hb3
    have hbz : ∀ j : Int, 0 ≤ j → j < 5 → 0 ≤ w1 51 j ∧ w1 51 j ≤ 2985984 * y := fun j j0 j1 => by
      rw [hz j j0 j1]
      have := @sumI_bd (fun s => if wnA (w 3 2) (w 24) (w 6) s = j then prodN (fA (w 24) p s) (w 3 2).toNat else 0) 0 2985984 y (by omega) (fun q _ _ => by
        have := @wtA_in (w 24) p q (w 3 2).toNat hp (by omega)
        try dsimp only
        split <;> omega)
      omega
    have hn1 : 1 ≤ w1 3 2 ∧ w1 3 2 ≤ 6 := by rw [e3]; exact hn
    have hg1 : ∀ j : Int, 0 ≤ j → j < w1 3 2 → 1 ≤ w1 6 j ∧ w1 6 j ≤ 9 := by rw [e3, e6]; exact hg
    refine wp_iload (pc' := 33) rfl rfl rfl ?_
    refine wp_iconst (a := 1) (pc' := 34) rfl rfl rfl ?_
    refine wp_aload_n (pc' := 35) rfl rfl rfl (by decide) ?_
    refine wp_getI (ci := 3) (k0 := 2) (pc' := 38) rfl rfl (by decide) (by first | assumption | rfl) ?_
    refine wp_ishl (pc' := 39) rfl rfl rfl ?_
    refine wp_icmp_ge (pc' := 42) (pt := 99) rfl rfl rfl (fun q_1 => ?_) (fun q_1 => ?_)
    · skip
      refine wp_ret rfl rfl rfl ?_
      obtain rfl : y = iShl 1 (w 3 2) := by omega
      exact ⟨rfl, hS, hz, h3⟩
    · skip
      exfalso; omega
  | succ k ih =>
    intro m y w1 x5 x6 hy hmk hS hz h3
    have hT := hT0.sameF hS (by decide)
    have e3 : w1 3 = w 3 := hS.cell 3 (by decide) (by decide)
    have e32 : w1 3 2 = w 3 2 := by rw [e3]
    have e6 : w1 6 = w 6 := hS.cell 6 (by decide) (by decide)
    have e24 : w1 24 = w 24 := hS.cell 24 (by decide) (by decide)
    have hsh := shl1 hn
    have hsh1 : iShl 1 (w1 3 2) = iShl 1 (w 3 2) := by rw [e3]
    have hwt := @wtA_in (w 24) p y (w 3 2).toNat hp (by omega)
    have hb3 := @sumI_bd (fun s => prodN (fA (w 24) p s) (w 3 2).toNat) 0 2985984 y (by omega) (fun j _ _ => @wtA_in (w 24) p j (w 3 2).toNat hp (by omega))
    rw [← h3] at hb3
    have hbz : ∀ j : Int, 0 ≤ j → j < 5 → 0 ≤ w1 51 j ∧ w1 51 j ≤ 2985984 * y := fun j j0 j1 => by
      rw [hz j j0 j1]
      have := @sumI_bd (fun s => if wnA (w 3 2) (w 24) (w 6) s = j then prodN (fA (w 24) p s) (w 3 2).toNat else 0) 0 2985984 y (by omega) (fun q _ _ => by
        have := @wtA_in (w 24) p q (w 3 2).toNat hp (by omega)
        try dsimp only
        split <;> omega)
      omega
    have hn1 : 1 ≤ w1 3 2 ∧ w1 3 2 ≤ 6 := by rw [e3]; exact hn
    have hg1 : ∀ j : Int, 0 ≤ j → j < w1 3 2 → 1 ≤ w1 6 j ∧ w1 6 j ≤ 9 := by rw [e3, e6]; exact hg
    refine wp_iload (pc' := 33) rfl rfl rfl ?_
    refine wp_iconst (a := 1) (pc' := 34) rfl rfl rfl ?_
    refine wp_aload_n (pc' := 35) rfl rfl rfl (by decide) ?_
    refine wp_getI (ci := 3) (k0 := 2) (pc' := 38) rfl rfl (by decide) (by first | assumption | rfl) ?_
    refine wp_ishl (pc' := 39) rfl rfl rfl ?_
    refine wp_icmp_ge (pc' := 42) (pt := 99) rfl rfl rfl (fun q_1 => ?_) (fun q_1 => ?_)
    · skip
      exfalso; omega
    · skip
      refine wp_aload_n (pc' := 43) rfl rfl rfl (by decide) ?_
      refine wp_aload_n (pc' := 44) rfl rfl rfl (by decide) ?_
      refine wp_iload (pc' := 46) rfl rfl rfl ?_
      refine wp_iload_n (pc' := 47) rfl rfl rfl ?_
      refine wp_call (pc' := 50) rfl rfl rfl rfl rfl ⟨Nat.le_of_ble_eq_true rfl, Nat.le_of_ble_eq_true rfl, Nat.le_of_ble_eq_true rfl, Nat.le_of_ble_eq_true rfl, Nat.le_of_ble_eq_true rfl⟩ rfl (c_Chance_weightOf hT (by omega) hp) ?_
      intro v1 w9 hq1
      rw [hq1.1, hq1.2]
      clear hq1 v1 w9
      rw [e24, e3]
      dsimp only [Option.toList, List.cons_append, List.nil_append, List.append_nil]
      refine wp_lstore (pc' := 52) rfl rfl (Nat.le_of_ble_eq_true rfl) rfl ?_
      dsimp only [lset, lset2, List.set, List.getElem?_cons_zero, List.getElem?_cons_succ]
      refine wp_lload (pc' := 54) rfl rfl rfl ?_
      refine wp_lconst (a := 0) (pc' := 55) rfl rfl rfl ?_
      refine wp_lcmp (pc' := 56) rfl rfl rfl ?_
      have hlc := lCmp_gt (prodN (fA (w 24) p y) (w 3 2).toNat) 0
      refine wp_if_le (pc' := 59) (pt := 93) rfl rfl rfl (fun q_2 => ?_) (fun q_2 => ?_)
      · skip
        refine wp_iinc (pc' := 96) rfl rfl rfl (inc_id (by omega) (by omega)) rfl ?_
        dsimp only [lset, lset2, List.set, List.getElem?_cons_zero, List.getElem?_cons_succ]
        refine wp_goto (pc' := 31) rfl rfl ?_
        refine ih (m + 1) _ _ _ _ (by omega) (by omega) hS (fun j j0 j1 => ?_) ?_
        · rw [sumI_s _ (by omega), hz j j0 j1]
          try dsimp only
          rw [show prodN (fA (w 24) p y) (w 3 2).toNat = 0 by omega]
          split <;> omega
        · rw [sumI_s _ (by omega), h3]
          try dsimp only
          rw [show prodN (fA (w 24) p y) (w 3 2).toNat = 0 by omega, Int.add_zero]
      · skip
        refine wp_aload_n (pc' := 60) rfl rfl rfl (by decide) ?_
        refine wp_aload_n (pc' := 61) rfl rfl rfl (by decide) ?_
        refine wp_iload (pc' := 63) rfl rfl rfl ?_
        refine wp_bipush (a := -9) (pc' := 65) rfl rfl rfl ?_
        refine wp_call (pc' := 68) rfl rfl rfl rfl rfl ⟨Nat.le_of_ble_eq_true rfl, Nat.le_of_ble_eq_true rfl, Nat.le_of_ble_eq_true rfl, Nat.le_of_ble_eq_true rfl, Nat.le_of_ble_eq_true rfl⟩ rfl (c_Ballot_heap hT hn1 hg1) ?_
        rintro v1 w2 ⟨hv1, hS2, hz2⟩
        rw [hv1]
        clear hv1 v1
        rw [e6, e3, e24] at hz2
        have hT := hT.same hS2 (by decide)
        have f51 : w2 51 = w1 51 := hS2 51 (by decide)
        have f50 : w2 50 = w1 50 := hS2 50 (by decide)
        have hwi := sWin_in (w2 25)
        dsimp only [Option.toList, List.cons_append, List.nil_append, List.append_nil]
        refine wp_aload_n (pc' := 69) rfl rfl rfl (by decide) ?_
        refine wp_getR (r' := 51) (ci := 1) (k0 := 2) (pc' := 72) rfl rfl (by decide) (by first | assumption | rfl) (hT.get 64 rfl) ?_
        refine wp_aload_n (pc' := 73) rfl rfl rfl (by decide) ?_
        refine wp_call (pc' := 76) rfl rfl rfl rfl rfl ⟨Nat.le_of_ble_eq_true rfl, Nat.le_of_ble_eq_true rfl, Nat.le_of_ble_eq_true rfl, Nat.le_of_ble_eq_true rfl, Nat.le_of_ble_eq_true rfl⟩ rfl (c_Ballot_winner hT) ?_
        intro v1 w9 hq1
        rw [hq1.1, hq1.2]
        clear hq1 v1 w9
        have hwe : sWin (w2 25) = wnA (w 3 2) (w 24) (w 6) y := sWin_congr (fun j a b => hz2 j a (by omega))
        have hb1 := hbz (sWin (w2 25)) hwi.1 (by omega)
        rw [← f51] at hb1
        rw [← f50] at hb3
        dsimp only [Option.toList, List.cons_append, List.nil_append, List.append_nil]
        refine wp_dup2 (pc' := 77) rfl rfl ?_
        refine wp_laload (pc' := 78) rfl rfl (by first | assumption | rfl) (by omega) ?_
        refine wp_lload (pc' := 80) rfl rfl rfl ?_
        refine wp_ladd (pc' := 81) rfl rfl (by first | exact w64_id (by omega) (by omega) | rfl) ?_
        refine wp_lastore (pc' := 82) rfl rfl (by first | assumption | rfl) (by omega) ?_
        refine wp_stc (hT.putA (by decide)) (fun hT => ?_)
        refine wp_aload_n (pc' := 83) rfl rfl rfl (by decide) ?_
        refine wp_dupR (pc' := 84) rfl rfl ?_
        skip
        refine wp_getL (ci := 1) (k0 := 3) (pc' := 87) rfl rfl (by decide) (by first | assumption | rfl) ?_
        rw [up_ne (show (50 : Int) ≠ 51 by decide)]
        refine wp_lload (pc' := 89) rfl rfl rfl ?_
        refine wp_ladd (pc' := 90) rfl rfl (by first | exact w64_id (by omega) (by omega) | rfl) ?_
        refine wp_putL (ci := 1) (k0 := 3) (pc' := 93) rfl rfl (by decide) (by first | assumption | rfl) ?_
        refine wp_iinc (pc' := 96) rfl rfl rfl (inc_id (by omega) (by omega)) rfl ?_
        dsimp only [lset, lset2, List.set, List.getElem?_cons_zero, List.getElem?_cons_succ]
        refine wp_goto (pc' := 31) rfl rfl ?_
        refine ih (m + 1) _ _ _ _ (by omega) (by omega) (((hS.tr ((hS2.F _).mono (by simp) (fun q hq => Or.inl hq))).put (Or.inl (by decide))).put (Or.inr (by decide))) (fun j j0 j1 => ?_) ?_
        · rw [up_ne (by decide), sumI_s _ (by omega), ← hz j j0 j1]
          try dsimp only
          rw [← hwe]
          by_cases hj : sWin (w2 25) = j
          · rw [if_pos hj, ← hj, up_eq, f51]
          · rw [if_neg hj, up_at (fun z => hj z.symm), f51, Int.add_zero]
        · rw [up_eq, sumI_s _ (by omega), ← h3, f50]
set_option maxRecDepth 20000 in
set_option maxHeartbeats 4000000 in
theorem c_Chance_weigh {w : Hp} {d : Nat} {p : Int} (hT : Stc w) (hn : 1 ≤ w 3 2 ∧ w 3 2 ≤ 6) (hg : ∀ j : Int, 0 ≤ j → j < w 3 2 → 1 ≤ w 6 j ∧ w 6 j ≤ 9) (hp : 0 ≤ p ∧ p ≤ 12) : WP SH (d + 1) 10 0 [some (vR 50), some (vR 3), some (vR 23), some (vI p), none, none, none] [] w (fun v w' => v = none ∧ SameF w w' [25, 51] [(50, 3)] ∧ (∀ j : Int, 0 ≤ j → j < 5 → w' 51 j = sumI (fun s => if wnA (w 3 2) (w 24) (w 6) s = j then prodN (fA (w 24) p s) (w 3 2).toNat else 0) (iShl 1 (w 3 2))) ∧ w' 50 3 = sumI (fun s => prodN (fA (w 24) p s) (w 3 2).toNat) (iShl 1 (w 3 2))) := by
  refine wp_aload_n (pc' := 1) rfl rfl rfl (by decide) ?_
  refine wp_lconst (a := 0) (pc' := 2) rfl rfl rfl ?_
  refine wp_putL (ci := 1) (k0 := 3) (pc' := 5) rfl rfl (by decide) (by first | assumption | rfl) ?_
  refine wp_iconst (a := 0) (pc' := 6) rfl rfl rfl ?_
  refine wp_istore (pc' := 8) rfl rfl (Nat.le_of_ble_eq_true rfl) rfl ?_
  dsimp only [lset, lset2, List.set, List.getElem?_cons_zero, List.getElem?_cons_succ]
  refine l_weigh1 hT (fun w1 hS1 hz1 h31 => ?_) 5 0 _ (by decide) (by decide) ((SameF.rf _ _ _).put (Or.inr (by decide))) (fun j a b => absurd b (by omega)) (up_eq _ _ _ _)
  refine wp_iconst (a := 0) (pc' := 29) rfl rfl rfl ?_
  refine wp_istore (pc' := 31) rfl rfl (Nat.le_of_ble_eq_true rfl) rfl ?_
  dsimp only [lset, lset2, List.set, List.getElem?_cons_zero, List.getElem?_cons_succ]
  refine (l_weigh2 hT hn hg hp (iShl 1 (w 3 2)).toNat 0 _ w1 _ _ rfl (by omega) (hS1.mono (by simp) (fun q hq => Or.inl hq)) (fun j a b => by rw [sumI_0]; exact hz1 j a b) (by rw [sumI_0]; exact h31))
