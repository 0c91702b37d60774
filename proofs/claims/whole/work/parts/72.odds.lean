/-! odds, mid -/
theorem fWh_pos (C : Int → Int) : ∀ m : Nat, m ≤ 6 → 0 < prodN (fWh C) m ∧ prodN (fWh C) m ≤ 2985984 := by
  intro m hm
  have h1 := prodN_bd (m := m) (f := fWh C) (fun j _ _ => by unfold fWh; split <;> omega)
  have h2 := pow12 hm
  refine ⟨?_, by omega⟩
  clear h1 h2
  induction m with
  | zero => exact (by decide : (0 : Int) < 1)
  | succ m ih =>
    have h3 := ih (by omega)
    unfold prodN
    refine Int.mul_pos h3 ?_
    unfold fWh
    split <;> omega
set_option maxRecDepth 20000 in
set_option maxHeartbeats 4000000 in
theorem c_Mod_layParts {w : Hp} {d : Nat} {way p : Int} (hT0 : Stc w) (hl : MdOK w) (hx : Cel (w 100 11) (w 100 12) (w 109 0)) (hp : 0 ≤ p ∧ p ≤ 12) : WP SH (d + 6) 220 0 [some (vR 100), some (vI way), some (vI p), none, none, none, none, none] [] w (fun v9 w' => v9 = none ∧ SameF w w' [113] [(100, 34), (100, 35), (100, 36)] ∧ w' 100 34 = prodN (fWh (fVote (w 100 11) (w 100 12) (w 107) (fun i => w 109 (3 + i)) (w 109 0) (w 109 1))) (w 100 10).toNat ∧ w' 100 35 = sumI (fP (orN (fVt (fVote (w 100 11) (w 100 12) (w 107) (fun i => w 109 (3 + i)) (w 109 0) (w 109 1))) (w 100 10).toNat) p way (w 100 10) (fVote (w 100 11) (w 100 12) (w 107) (fun i => w 109 (3 + i)) (w 109 0) (w 109 1)) (w 108)) ((orN (fVt (fVote (w 100 11) (w 100 12) (w 107) (fun i => w 109 (3 + i)) (w 109 0) (w 109 1))) (w 100 10).toNat) + 1) ∧ w' 100 36 = sumI (fQ (orN (fVt (fVote (w 100 11) (w 100 12) (w 107) (fun i => w 109 (3 + i)) (w 109 0) (w 109 1))) (w 100 10).toNat) p (w 100 10) (fVote (w 100 11) (w 100 12) (w 107) (fun i => w 109 (3 + i)) (w 109 0) (w 109 1)) (w 108) (fun q => sumI (fWorth (w 100 11) (w 107) (fun i => w 109 (3 + i)) (w 108) (sBeside (w 100 11) (w 100 12) (w 109 0) q)) (w 100 10))) ((orN (fVt (fVote (w 100 11) (w 100 12) (w 107) (fun i => w 109 (3 + i)) (w 109 0) (w 109 1))) (w 100 10).toNat) + 1)) := by
  refine wp_iconst (a := 0) (pc' := 1) rfl rfl rfl ?_
  refine wp_istore_n (pc' := 2) rfl rfl (Nat.le_of_ble_eq_true rfl) rfl ?_
  dsimp only [lset, lset2, List.set, List.getElem?_cons_zero, List.getElem?_cons_succ]
  refine wp_aload_n (pc' := 3) rfl rfl rfl (by decide) ?_
  refine wp_lconst (a := 1) (pc' := 4) rfl rfl rfl ?_
  refine wp_putL (ci := 10) (k0 := 34) (pc' := 7) rfl rfl (by decide) (by first | assumption | rfl) ?_
  refine wp_aload_n (pc' := 8) rfl rfl rfl (by decide) ?_
  refine wp_lconst (a := 0) (pc' := 9) rfl rfl rfl ?_
  refine wp_putL (ci := 10) (k0 := 35) (pc' := 12) rfl rfl (by decide) (by first | assumption | rfl) ?_
  refine wp_aload_n (pc' := 13) rfl rfl rfl (by decide) ?_
  refine wp_lconst (a := 0) (pc' := 14) rfl rfl rfl ?_
  refine wp_putL (ci := 10) (k0 := 36) (pc' := 17) rfl rfl (by decide) (by first | assumption | rfl) ?_
  refine wp_iconst (a := 0) (pc' := 18) rfl rfl rfl ?_
  refine wp_istore (pc' := 20) rfl rfl (Nat.le_of_ble_eq_true rfl) rfl ?_
  dsimp only [lset, lset2, List.set, List.getElem?_cons_zero, List.getElem?_cons_succ]
  have hn := hl.2.1
  refine l_lp1 (w := w) hT0 hl hx hp (fun w1 x5 hS1 h341 h351 h361 => ?_) (w 100 10).toNat 0 _ _ _ _ rfl (by omega) rfl ((((SameF.rf _ _ _).put (Or.inr (by decide))).put (Or.inr (by decide))).put (Or.inr (by decide))) ?_ ?_ ?_
  rotate_left
  · rw [up_at (by decide), up_at (by decide), up_eq]; rfl
  · rw [up_at (by decide), up_eq]
  · rw [up_eq]
  refine wp_iconst (a := 0) (pc' := 103) rfl rfl rfl ?_
  refine wp_istore (pc' := 105) rfl rfl (Nat.le_of_ble_eq_true rfl) rfl ?_
  dsimp only [lset, lset2, List.set, List.getElem?_cons_zero, List.getElem?_cons_succ]
  obtain ⟨v, hv, hvl, -⟩ := orN_bit (f := fVt (fVote (w 100 11) (w 100 12) (w 107) (fun i => w 109 (3 + i)) (w 109 0) (w 109 1))) (m := (w 100 10).toNat) (by omega)
  have h64 : (2 : Nat) ^ (w 100 10).toNat ≤ 2 ^ 6 := Nat.pow_le_pow_right (by decide) (by omega)
  rw [show (2 : Nat) ^ 6 = 64 from rfl] at h64
  exact l_lp3 (w := w) (v := v) hT0 hl hx hp hv (by omega) (v + 1) 0 0 w1 _ _ _ rfl (by omega) hS1 h341 (by rw [sumI_0]; exact h351) (by rw [sumI_0]; exact h361)
set_option maxRecDepth 20000 in
set_option maxHeartbeats 4000000 in
theorem l_Mgcd {w : Hp} {d : Nat} {u l : Int} {Q : Option PV → Hp → Prop} : ∀ (k : Nat) (a b : Int) (x9 : Option PV), 0 ≤ b → b < a → a < 9000000000000000000 → a * b < ((2 ^ k : Nat) : Int) → (∀ x9 : Option PV, WP SH d 145 31 [some (vR 100), some (vL u), none, some (vL l), none, some (vL (eu (k + 1) a b)), none, some (vL 0), none, x9, none] [] w Q) → WP SH d 145 6 [some (vR 100), some (vL u), none, some (vL l), none, some (vL a), none, some (vL b), none, x9, none] [] w Q := by
  intro k
  induction k with
  | zero =>
    intro a b x9 hb hba ha hm K
    refine wp_lload (pc' := 8) rfl rfl rfl ?_
    refine wp_lconst (a := 0) (pc' := 9) rfl rfl rfl ?_
    refine wp_lcmp (pc' := 10) rfl rfl rfl ?_
    have hlc := lCmp_eq b 0
    refine wp_if_eq (pc' := 13) (pt := 31) rfl rfl rfl (fun q_1 => ?_) (fun q_1 => ?_)
    · skip
      obtain rfl : b = 0 := by omega
      have he : eu (0 + 1) a 0 = a := if_pos rfl
      rw [he] at K
      exact K x9
    · skip
      exfalso
      have h1 : 1 ≤ a := by omega
      have h2 : 1 * 1 ≤ a * b := Int.mul_le_mul h1 (by omega) (by decide) (by omega)
      have h3 : ((2 ^ 0 : Nat) : Int) = 1 := rfl
      omega
  | succ k ih =>
    intro a b x9 hb hba ha hm K
    refine wp_lload (pc' := 8) rfl rfl rfl ?_
    refine wp_lconst (a := 0) (pc' := 9) rfl rfl rfl ?_
    refine wp_lcmp (pc' := 10) rfl rfl rfl ?_
    have hlc := lCmp_eq b 0
    refine wp_if_eq (pc' := 13) (pt := 31) rfl rfl rfl (fun q_1 => ?_) (fun q_1 => ?_)
    · skip
      obtain rfl : b = 0 := by omega
      have he : eu (k + 1 + 1) a 0 = a := if_pos rfl
      rw [he] at K
      exact K x9
    · skip
      refine wp_lload (pc' := 15) rfl rfl rfl ?_
      refine wp_lload (pc' := 17) rfl rfl rfl ?_
      refine wp_lrem (pc' := 18) rfl rfl (by omega) (by first | exact lRem_pos (by omega) (by omega) (by omega) | rfl) ?_
      refine wp_lstore (pc' := 20) rfl rfl (Nat.le_of_ble_eq_true rfl) rfl ?_
      dsimp only [lset, lset2, List.set, List.getElem?_cons_zero, List.getElem?_cons_succ]
      refine wp_lload (pc' := 22) rfl rfl rfl ?_
      refine wp_lstore (pc' := 24) rfl rfl (Nat.le_of_ble_eq_true rfl) rfl ?_
      dsimp only [lset, lset2, List.set, List.getElem?_cons_zero, List.getElem?_cons_succ]
      refine wp_lload (pc' := 26) rfl rfl rfl ?_
      refine wp_lstore (pc' := 28) rfl rfl (Nat.le_of_ble_eq_true rfl) rfl ?_
      dsimp only [lset, lset2, List.set, List.getElem?_cons_zero, List.getElem?_cons_succ]
      refine wp_goto (pc' := 6) rfl rfl ?_
      have hst := eu_step (k := k) (a := a) (b := b) (by omega) hm
      have he : eu (k + 1 + 1) a b = eu (k + 1) b (a % b) := if_neg (show ¬ b = 0 by omega)
      rw [he] at K
      exact ih b (a % b) _ hst.2.1 hst.2.2 (by omega) hst.1 K
set_option maxRecDepth 20000 in
set_option maxHeartbeats 4000000 in
theorem c_Mod_fraction {w : Hp} {d : Nat} {u l : Int} (h : 0 ≤ u ∧ u < 274877906944 ∧ 0 < l ∧ l ≤ 2985984) : WP SH (d + 0) 145 0 [some (vR 100), some (vL u), none, some (vL l), none, none, none, none, none, none, none] [] w (fun v w' => v = some (vI 1) ∧ w' = up (up w 100 3 (u / eu 62 u l)) 100 4 (l / eu 62 u l)) := by
  have hge := eu_pos 62 u l (by omega) h.1 (Or.inr h.2.2.1) (fun z => absurd z (by decide))
  refine wp_lload_n (pc' := 1) rfl rfl rfl ?_
  refine wp_lstore (pc' := 3) rfl rfl (Nat.le_of_ble_eq_true rfl) rfl ?_
  dsimp only [lset, lset2, List.set, List.getElem?_cons_zero, List.getElem?_cons_succ]
  refine wp_lload_n (pc' := 4) rfl rfl rfl ?_
  refine wp_lstore (pc' := 6) rfl rfl (Nat.le_of_ble_eq_true rfl) rfl ?_
  dsimp only [lset, lset2, List.set, List.getElem?_cons_zero, List.getElem?_cons_succ]
  refine wp_lload (pc' := 8) rfl rfl rfl ?_
  refine wp_lconst (a := 0) (pc' := 9) rfl rfl rfl ?_
  refine wp_lcmp (pc' := 10) rfl rfl rfl ?_
  have hlc := lCmp_eq l 0
  refine wp_if_eq (pc' := 13) (pt := 31) rfl rfl rfl (fun q_21 => ?_) (fun q_21 => ?_)
  · skip
    exfalso; omega
  · skip
    refine wp_lload (pc' := 15) rfl rfl rfl ?_
    refine wp_lload (pc' := 17) rfl rfl rfl ?_
    refine wp_lrem (pc' := 18) rfl rfl (by omega) (by first | exact lRem_pos (by omega) (by omega) (by omega) | rfl) ?_
    refine wp_lstore (pc' := 20) rfl rfl (Nat.le_of_ble_eq_true rfl) rfl ?_
    dsimp only [lset, lset2, List.set, List.getElem?_cons_zero, List.getElem?_cons_succ]
    refine wp_lload (pc' := 22) rfl rfl rfl ?_
    refine wp_lstore (pc' := 24) rfl rfl (Nat.le_of_ble_eq_true rfl) rfl ?_
    dsimp only [lset, lset2, List.set, List.getElem?_cons_zero, List.getElem?_cons_succ]
    refine wp_lload (pc' := 26) rfl rfl rfl ?_
    refine wp_lstore (pc' := 28) rfl rfl (Nat.le_of_ble_eq_true rfl) rfl ?_
    dsimp only [lset, lset2, List.set, List.getElem?_cons_zero, List.getElem?_cons_succ]
    refine wp_goto (pc' := 6) rfl rfl ?_
    have h1 := Int.emod_nonneg u (show l ≠ 0 by omega)
    have h2 := Int.emod_lt_of_pos u h.2.2.1
    have h3 : u % l ≤ u := by
      have e1 := Int.emod_add_mul_ediv u l
      have e2 : 0 ≤ l * (u / l) := Int.mul_nonneg (by omega) (Int.ediv_nonneg h.1 (by omega))
      omega
    have h4 : l * (u % l) ≤ l * u := Int.mul_le_mul_of_nonneg_left h3 (by omega)
    have h5 : l * u ≤ 2985984 * 274877906944 := Int.mul_le_mul h.2.2.2 (by omega) h.1 (by decide)
    have he : eu 62 u l = eu 61 l (u % l) := if_neg (show ¬ l = 0 by omega)
    have h60 : ((2 ^ 60 : Nat) : Int) = 1152921504606846976 := by decide +kernel
    refine l_Mgcd 60 l (u % l) _ h1 h2 (by omega) (by omega) (fun x9 => ?_)
    rw [show eu (60 + 1) l (u % l) = eu 62 u l from he.symm]
    refine wp_aload_n (pc' := 32) rfl rfl rfl (by decide) ?_
    refine wp_lload_n (pc' := 33) rfl rfl rfl ?_
    refine wp_lload (pc' := 35) rfl rfl rfl ?_
    refine wp_ldiv (pc' := 36) rfl rfl (by omega) (by first | exact lDiv_pos (by omega) (by omega) (by omega) | rfl) ?_
    refine wp_putL (ci := 10) (k0 := 3) (pc' := 39) rfl rfl (by decide) (by first | assumption | rfl) ?_
    refine wp_aload_n (pc' := 40) rfl rfl rfl (by decide) ?_
    refine wp_lload_n (pc' := 41) rfl rfl rfl ?_
    refine wp_lload (pc' := 43) rfl rfl rfl ?_
    refine wp_ldiv (pc' := 44) rfl rfl (by omega) (by first | exact lDiv_pos (by omega) (by omega) (by omega) | rfl) ?_
    refine wp_putL (ci := 10) (k0 := 4) (pc' := 47) rfl rfl (by decide) (by first | assumption | rfl) ?_
    refine wp_iconst (a := 1) (pc' := 48) rfl rfl rfl ?_
    refine wp_ret rfl rfl rfl ?_
    exact ⟨rfl, rfl⟩
