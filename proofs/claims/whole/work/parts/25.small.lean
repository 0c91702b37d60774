/-! strips, findings, small tests on both sides -/
/-- a strip: its object, its places, how many -/
def StripAt (w : Hp) (s p : Int) (n : Nat) : Prop := shAt SH s = some (0, 7) ∧ shAt SH p = some (1, n) ∧ w s 0 = p ∧ 0 ≤ s ∧ 0 ≤ p ∧ s ≠ p ∧ n < 1000
set_option maxRecDepth 20000 in
set_option maxHeartbeats 4000000 in
theorem c_Strip_isMissing {w : Hp} {d : Nat} {s p : Int} {n : Nat} (hs : StripAt w s p n) : WP SH (d + 0) 70 0 [some (vR s)] [] w (fun v w' => w' = w ∧ ((v = some (vI 1) ∧ (w s 1 = -1)) ∨ (v = some (vI 0) ∧ ¬ (w s 1 = -1)))) := by
  obtain ⟨hs7, hpn, hsp, hs0, hp0, hne, hnn⟩ := id hs
  refine wp_aload_n (pc' := 1) rfl rfl rfl (by omega) ?_
  refine wp_getI (ci := 7) (k0 := 1) (pc' := 4) rfl rfl (by decide) (by first | assumption | rfl) ?_
  refine wp_iconst (a := -1) (pc' := 5) rfl rfl rfl ?_
  refine wp_icmp_ne (pc' := 8) (pt := 12) rfl rfl rfl (fun q_1 => ?_) (fun q_1 => ?_)
  · skip
    refine wp_iconst (a := 0) (pc' := 13) rfl rfl rfl ?_
    refine wp_ret rfl rfl rfl ?_
    first | exact ⟨rfl, Or.inl ⟨rfl, by omega⟩⟩ | exact ⟨rfl, Or.inr ⟨rfl, by omega⟩⟩ | (exfalso; omega)
  · skip
    refine wp_iconst (a := 1) (pc' := 9) rfl rfl rfl ?_
    refine wp_goto (pc' := 13) rfl rfl ?_
    refine wp_ret rfl rfl rfl ?_
    first | exact ⟨rfl, Or.inl ⟨rfl, by omega⟩⟩ | exact ⟨rfl, Or.inr ⟨rfl, by omega⟩⟩ | (exfalso; omega)
set_option maxRecDepth 20000 in
set_option maxHeartbeats 4000000 in
theorem c_Strip_remove {w : Hp} {d : Nat} {s p : Int} {n : Nat} (hs : StripAt w s p n) : WP SH (d + 0) 71 0 [some (vR s)] [] w (fun v w' => v = none ∧ w' = up w s 1 (-1)) := by
  obtain ⟨hs7, hpn, hsp, hs0, hp0, hne, hnn⟩ := id hs
  refine wp_aload_n (pc' := 1) rfl rfl rfl (by omega) ?_
  refine wp_iconst (a := -1) (pc' := 2) rfl rfl rfl ?_
  refine wp_putI (ci := 7) (k0 := 1) (pc' := 5) rfl rfl (by decide) (by first | assumption | rfl) ?_
  refine wp_ret rfl rfl rfl ?_
  exact ⟨rfl, rfl⟩
set_option maxRecDepth 20000 in
set_option maxHeartbeats 4000000 in
theorem c_Strip_holds {w : Hp} {d : Nat} {s p a m : Int} {n : Nat} (hs : StripAt w s p n) (hz : -1 ≤ w s 1 ∧ w s 1 ≤ 1000) (hm : m < 2147483648) : WP SH (d + 0) 73 0 [some (vR s), some (vI a), some (vI m)] [] w (fun v w' => w' = w ∧ ((v = some (vI 1) ∧ (0 ≤ a ∧ 0 ≤ m ∧ a + m ≤ w s 1)) ∨ (v = some (vI 0) ∧ ¬ (0 ≤ a ∧ 0 ≤ m ∧ a + m ≤ w s 1)))) := by
  obtain ⟨hs7, hpn, hsp, hs0, hp0, hne, hnn⟩ := id hs
  refine wp_iload_n (pc' := 1) rfl rfl rfl ?_
  refine wp_if_lt (pc' := 4) (pt := 22) rfl rfl rfl (fun q_1 => ?_) (fun q_1 => ?_)
  · skip
    refine wp_iconst (a := 0) (pc' := 23) rfl rfl rfl ?_
    refine wp_ret rfl rfl rfl ?_
    first | exact ⟨rfl, Or.inl ⟨rfl, by omega⟩⟩ | exact ⟨rfl, Or.inr ⟨rfl, by omega⟩⟩ | (exfalso; omega)
  · skip
    refine wp_iload_n (pc' := 5) rfl rfl rfl ?_
    refine wp_if_lt (pc' := 8) (pt := 22) rfl rfl rfl (fun q_2 => ?_) (fun q_2 => ?_)
    · skip
      refine wp_iconst (a := 0) (pc' := 23) rfl rfl rfl ?_
      refine wp_ret rfl rfl rfl ?_
      first | exact ⟨rfl, Or.inl ⟨rfl, by omega⟩⟩ | exact ⟨rfl, Or.inr ⟨rfl, by omega⟩⟩ | (exfalso; omega)
    · skip
      refine wp_iload_n (pc' := 9) rfl rfl rfl ?_
      refine wp_aload_n (pc' := 10) rfl rfl rfl (by omega) ?_
      refine wp_getI (ci := 7) (k0 := 1) (pc' := 13) rfl rfl (by decide) (by first | assumption | rfl) ?_
      refine wp_iload_n (pc' := 14) rfl rfl rfl ?_
      refine wp_isub (pc' := 15) rfl rfl (by first | exact w32_id (by omega) (by omega) | rfl) ?_
      refine wp_icmp_gt (pc' := 18) (pt := 22) rfl rfl rfl (fun q_3 => ?_) (fun q_3 => ?_)
      · skip
        refine wp_iconst (a := 0) (pc' := 23) rfl rfl rfl ?_
        refine wp_ret rfl rfl rfl ?_
        first | exact ⟨rfl, Or.inl ⟨rfl, by omega⟩⟩ | exact ⟨rfl, Or.inr ⟨rfl, by omega⟩⟩ | (exfalso; omega)
      · skip
        refine wp_iconst (a := 1) (pc' := 19) rfl rfl rfl ?_
        refine wp_goto (pc' := 23) rfl rfl ?_
        refine wp_ret rfl rfl rfl ?_
        first | exact ⟨rfl, Or.inl ⟨rfl, by omega⟩⟩ | exact ⟨rfl, Or.inr ⟨rfl, by omega⟩⟩ | (exfalso; omega)
set_option maxRecDepth 20000 in
set_option maxHeartbeats 4000000 in
theorem l_renew {w : Hp} {d : Nat} {s p m x : Int} {n : Nat} (hs : StripAt w s p n) (hm : 0 ≤ m ∧ m ≤ n) : ∀ (k : Nat) (i : Int) (w1 : Hp), 0 ≤ i → i + k = m → SameF w w1 [p] [(s, 1)] → w1 s 1 = m → (∀ j : Int, 0 ≤ j → j < i → w1 p j = x) → WP SH d 72 19 [some (vR s), some (vI m), some (vI x), some (vI i)] [] w1 (fun v w' => v = none ∧ SameF w w' [p] [(s, 1)] ∧ w' s 1 = m ∧ ∀ j : Int, 0 ≤ j → j < m → w' p j = x) := by
  intro k
  induction k with
  | zero =>
    intro i w1 hi0 hik hS hw1 hz
    obtain ⟨hs7, hpn, hsp, hs0, hp0, hne, hnn⟩ := id hs
    have hsp1 : w1 s 0 = p := by rw [hS s 0 (by simp [hne]) (by simp)]; exact hsp
    refine wp_iload_n (pc' := 20) rfl rfl rfl ?_
    refine wp_aload_n (pc' := 21) rfl rfl rfl (by omega) ?_
    refine wp_getI (ci := 7) (k0 := 1) (pc' := 24) rfl rfl (by decide) (by first | assumption | rfl) ?_
    refine wp_icmp_ge (pc' := 27) (pt := 40) rfl rfl rfl (fun q_1 => ?_) (fun q_1 => ?_)
    · skip
      refine wp_ret rfl rfl rfl ?_
      exact ⟨rfl, hS, hw1, fun j a b => hz j a (by omega)⟩
    · skip
      exfalso; omega
  | succ k ih =>
    intro i w1 hi0 hik hS hw1 hz
    obtain ⟨hs7, hpn, hsp, hs0, hp0, hne, hnn⟩ := id hs
    have hsp1 : w1 s 0 = p := by rw [hS s 0 (by simp [hne]) (by simp)]; exact hsp
    refine wp_iload_n (pc' := 20) rfl rfl rfl ?_
    refine wp_aload_n (pc' := 21) rfl rfl rfl (by omega) ?_
    refine wp_getI (ci := 7) (k0 := 1) (pc' := 24) rfl rfl (by decide) (by first | assumption | rfl) ?_
    refine wp_icmp_ge (pc' := 27) (pt := 40) rfl rfl rfl (fun q_1 => ?_) (fun q_1 => ?_)
    · skip
      exfalso; omega
    · skip
      refine wp_aload_n (pc' := 28) rfl rfl rfl (by omega) ?_
      refine wp_getR (r' := p) (ci := 7) (k0 := 0) (pc' := 31) rfl rfl (by decide) (by first | assumption | rfl) (hsp1) ?_
      refine wp_iload_n (pc' := 32) rfl rfl rfl ?_
      refine wp_iload_n (pc' := 33) rfl rfl rfl ?_
      refine wp_iastore (pc' := 34) rfl rfl (by first | assumption | rfl) (by omega) ?_
      refine wp_iinc (pc' := 37) rfl rfl rfl (inc_id (by omega) (by omega)) rfl ?_
      dsimp only [lset, lset2, List.set, List.getElem?_cons_zero, List.getElem?_cons_succ]
      refine wp_goto (pc' := 19) rfl rfl ?_
      refine ih _ _ (by omega) (by omega) (hS.put (Or.inl (by simp))) (by rw [up_ne hne]; exact hw1) (fun j a b => ?_)
      by_cases hj : j = i
      · rw [hj, up_eq]
      · rw [up_at hj]; exact hz j a (by omega)
set_option maxRecDepth 20000 in
set_option maxHeartbeats 4000000 in
theorem c_Strip_renew {w : Hp} {d : Nat} {s p m x : Int} {n : Nat} (hs : StripAt w s p n) (hm : 0 ≤ m ∧ m ≤ n) : WP SH (d + 0) 72 0 [some (vR s), some (vI m), some (vI x), none] [] w (fun v w' => v = none ∧ SameF w w' [p] [(s, 1)] ∧ w' s 1 = m ∧ ∀ j : Int, 0 ≤ j → j < m → w' p j = x) := by
  obtain ⟨hs7, hpn, hsp, hs0, hp0, hne, hnn⟩ := id hs
  refine wp_aload_n (pc' := 1) rfl rfl rfl (by omega) ?_
  refine wp_iconst (a := 0) (pc' := 2) rfl rfl rfl ?_
  refine wp_iload_n (pc' := 3) rfl rfl rfl ?_
  refine wp_aload_n (pc' := 4) rfl rfl rfl (by omega) ?_
  refine wp_getR (r' := p) (ci := 7) (k0 := 0) (pc' := 7) rfl rfl (by decide) (by first | assumption | rfl) (hsp) ?_
  refine wp_alen (pc' := 8) rfl rfl (by first | assumption | rfl) (by first | decide | omega) ?_
  refine wp_min (pc' := 11) rfl rfl (Nat.le_of_ble_eq_true rfl) rfl ?_
  refine wp_max (pc' := 14) rfl rfl (Nat.le_of_ble_eq_true rfl) rfl ?_
  rw [show (if (0 : Int) < (if (n : Int) < m then (n : Int) else m) then (if (n : Int) < m then (n : Int) else m) else 0) = m by (repeat' split) <;> omega]
  refine wp_putI (ci := 7) (k0 := 1) (pc' := 17) rfl rfl (by decide) (by first | assumption | rfl) ?_
  refine wp_iconst (a := 0) (pc' := 18) rfl rfl rfl ?_
  refine wp_istore_n (pc' := 19) rfl rfl (Nat.le_of_ble_eq_true rfl) rfl ?_
  dsimp only [lset, lset2, List.set, List.getElem?_cons_zero, List.getElem?_cons_succ]
  exact l_renew hs hm m.toNat 0 _ (by omega) (by omega) ((SameF.rf _ _ _).put (Or.inr (by simp))) (by rw [up_eq]) (fun j a b => by omega)
set_option maxRecDepth 20000 in
set_option maxHeartbeats 4000000 in
theorem c_VH_refuse {w : Hp} {d : Nat} {f : Int} (hT : Stc w) (hf : 1 ≤ f ∧ f ≤ 5) : WP SH (d + 0) 126 0 [some (vR 0), some (vI f)] [] w (fun v w' => v = some (vI (-3)) ∧ w' = up (up w 0 13 f) 52 f (w32 (w 52 f + 1))) := by
  refine wp_aload_n (pc' := 1) rfl rfl rfl (by decide) ?_
  refine wp_iload_n (pc' := 2) rfl rfl rfl ?_
  refine wp_putI (ci := 9) (k0 := 13) (pc' := 5) rfl rfl (by decide) (by first | assumption | rfl) ?_
  refine wp_iload_n (pc' := 6) rfl rfl rfl ?_
  refine wp_iconst (a := 1) (pc' := 7) rfl rfl rfl ?_
  refine wp_icmp_lt (pc' := 10) (pt := 25) rfl rfl rfl (fun q_1 => ?_) (fun q_1 => ?_)
  · skip
    refine wp_bipush (a := -3) (pc' := 27) rfl rfl rfl ?_
    refine wp_ret rfl rfl rfl ?_
    first | exact ⟨rfl, by rw [up_ne (show (52 : Int) ≠ 0 by decide)]⟩ | (exfalso; omega)
  · skip
    refine wp_iload_n (pc' := 11) rfl rfl rfl ?_
    refine wp_iconst (a := 5) (pc' := 12) rfl rfl rfl ?_
    refine wp_icmp_gt (pc' := 15) (pt := 25) rfl rfl rfl (fun q_2 => ?_) (fun q_2 => ?_)
    · skip
      refine wp_bipush (a := -3) (pc' := 27) rfl rfl rfl ?_
      refine wp_ret rfl rfl rfl ?_
      first | exact ⟨rfl, by rw [up_ne (show (52 : Int) ≠ 0 by decide)]⟩ | (exfalso; omega)
    · skip
      have hT := hT.putF (r := 0) (i := 13) (x := f) (by decide)
      refine wp_aload_n (pc' := 16) rfl rfl rfl (by decide) ?_
      refine wp_getR (r' := 52) (ci := 9) (k0 := 12) (pc' := 19) rfl rfl (by decide) (by first | assumption | rfl) (hT.get 12 rfl) ?_
      refine wp_iload_n (pc' := 20) rfl rfl rfl ?_
      refine wp_dup2 (pc' := 21) rfl rfl ?_
      refine wp_iaload (pc' := 22) rfl rfl (by first | assumption | rfl) (by omega) ?_
      refine wp_iconst (a := 1) (pc' := 23) rfl rfl rfl ?_
      refine wp_iadd (pc' := 24) rfl rfl (by first | exact w32_id (by omega) (by omega) | rfl) ?_
      refine wp_iastore (pc' := 25) rfl rfl (by first | assumption | rfl) (by omega) ?_
      refine wp_bipush (a := -3) (pc' := 27) rfl rfl rfl ?_
      refine wp_ret rfl rfl rfl ?_
      first | exact ⟨rfl, by rw [up_ne (show (52 : Int) ≠ 0 by decide)]⟩ | (exfalso; omega)
set_option maxRecDepth 20000 in
set_option maxHeartbeats 4000000 in
theorem c_Mod_meets {w : Hp} {d : Nat} {f : Int} (hT : Stc w) (hf : 1 ≤ f ∧ f ≤ 5) : WP SH (d + 0) 140 0 [some (vR 100), some (vI f)] [] w (fun v w' => v = some (vI (-3)) ∧ w' = up (up w 100 0 f) 101 f (w32 (w 101 f + 1))) := by
  refine wp_aload_n (pc' := 1) rfl rfl rfl (by decide) ?_
  refine wp_iload_n (pc' := 2) rfl rfl rfl ?_
  refine wp_putI (ci := 10) (k0 := 0) (pc' := 5) rfl rfl (by decide) (by first | assumption | rfl) ?_
  have hT := hT.putF (r := 100) (i := 0) (x := f) (by decide)
  refine wp_aload_n (pc' := 6) rfl rfl rfl (by decide) ?_
  refine wp_getR (r' := 101) (ci := 10) (k0 := 1) (pc' := 9) rfl rfl (by decide) (by first | assumption | rfl) (hT.get 99 rfl) ?_
  refine wp_iload_n (pc' := 10) rfl rfl rfl ?_
  refine wp_dup2 (pc' := 11) rfl rfl ?_
  refine wp_iaload (pc' := 12) rfl rfl (by first | assumption | rfl) (by omega) ?_
  refine wp_iconst (a := 1) (pc' := 13) rfl rfl rfl ?_
  refine wp_iadd (pc' := 14) rfl rfl (by first | exact w32_id (by omega) (by omega) | rfl) ?_
  refine wp_iastore (pc' := 15) rfl rfl (by first | assumption | rfl) (by omega) ?_
  refine wp_bipush (a := -3) (pc' := 17) rfl rfl rfl ?_
  refine wp_ret rfl rfl rfl ?_
  exact ⟨rfl, by rw [up_ne (show (101 : Int) ≠ 100 by decide)]⟩
set_option maxRecDepth 20000 in
set_option maxHeartbeats 4000000 in
theorem c_Mod_tells {w : Hp} {d : Nat} {x a : Int} : WP SH (d + 0) 143 0 [some (vR 100), some (vI x), some (vI a)] [] w (fun v w' => v = some (vI a) ∧ w' = up w 100 2 x) := by
  refine wp_aload_n (pc' := 1) rfl rfl rfl (by decide) ?_
  refine wp_iload_n (pc' := 2) rfl rfl rfl ?_
  refine wp_putI (ci := 10) (k0 := 2) (pc' := 5) rfl rfl (by decide) (by first | assumption | rfl) ?_
  refine wp_iload_n (pc' := 6) rfl rfl rfl ?_
  refine wp_ret rfl rfl rfl ?_
  exact ⟨rfl, rfl⟩
set_option maxRecDepth 20000 in
set_option maxHeartbeats 4000000 in
theorem c_VH_isRow {w : Hp} {d : Nat} {r : Int} : WP SH (d + 0) 123 0 [some (vI r)] [] w (fun v w' => w' = w ∧ ((v = some (vI 1) ∧ (0 ≤ r ∧ r < 6)) ∨ (v = some (vI 0) ∧ ¬ (0 ≤ r ∧ r < 6)))) := by
  refine wp_iload_n (pc' := 1) rfl rfl rfl ?_
  refine wp_if_lt (pc' := 4) (pt := 14) rfl rfl rfl (fun q_1 => ?_) (fun q_1 => ?_)
  · skip
    refine wp_iconst (a := 0) (pc' := 15) rfl rfl rfl ?_
    refine wp_ret rfl rfl rfl ?_
    first | exact ⟨rfl, Or.inl ⟨rfl, by omega⟩⟩ | exact ⟨rfl, Or.inr ⟨rfl, by omega⟩⟩ | (exfalso; omega)
  · skip
    refine wp_iload_n (pc' := 5) rfl rfl rfl ?_
    refine wp_bipush (a := 6) (pc' := 7) rfl rfl rfl ?_
    refine wp_icmp_ge (pc' := 10) (pt := 14) rfl rfl rfl (fun q_2 => ?_) (fun q_2 => ?_)
    · skip
      refine wp_iconst (a := 0) (pc' := 15) rfl rfl rfl ?_
      refine wp_ret rfl rfl rfl ?_
      first | exact ⟨rfl, Or.inl ⟨rfl, by omega⟩⟩ | exact ⟨rfl, Or.inr ⟨rfl, by omega⟩⟩ | (exfalso; omega)
    · skip
      refine wp_iconst (a := 1) (pc' := 11) rfl rfl rfl ?_
      refine wp_goto (pc' := 15) rfl rfl ?_
      refine wp_ret rfl rfl rfl ?_
      first | exact ⟨rfl, Or.inl ⟨rfl, by omega⟩⟩ | exact ⟨rfl, Or.inr ⟨rfl, by omega⟩⟩ | (exfalso; omega)
set_option maxRecDepth 20000 in
set_option maxHeartbeats 4000000 in
theorem c_VH_isText {w : Hp} {d : Nat} {r : Int} : WP SH (d + 0) 124 0 [some (vI r)] [] w (fun v w' => w' = w ∧ ((v = some (vI 1) ∧ (0 ≤ r ∧ r < 4)) ∨ (v = some (vI 0) ∧ ¬ (0 ≤ r ∧ r < 4)))) := by
  refine wp_iload_n (pc' := 1) rfl rfl rfl ?_
  refine wp_if_lt (pc' := 4) (pt := 13) rfl rfl rfl (fun q_1 => ?_) (fun q_1 => ?_)
  · skip
    refine wp_iconst (a := 0) (pc' := 14) rfl rfl rfl ?_
    refine wp_ret rfl rfl rfl ?_
    first | exact ⟨rfl, Or.inl ⟨rfl, by omega⟩⟩ | exact ⟨rfl, Or.inr ⟨rfl, by omega⟩⟩ | (exfalso; omega)
  · skip
    refine wp_iload_n (pc' := 5) rfl rfl rfl ?_
    refine wp_iconst (a := 4) (pc' := 6) rfl rfl rfl ?_
    refine wp_icmp_ge (pc' := 9) (pt := 13) rfl rfl rfl (fun q_2 => ?_) (fun q_2 => ?_)
    · skip
      refine wp_iconst (a := 0) (pc' := 14) rfl rfl rfl ?_
      refine wp_ret rfl rfl rfl ?_
      first | exact ⟨rfl, Or.inl ⟨rfl, by omega⟩⟩ | exact ⟨rfl, Or.inr ⟨rfl, by omega⟩⟩ | (exfalso; omega)
    · skip
      refine wp_iconst (a := 1) (pc' := 10) rfl rfl rfl ?_
      refine wp_goto (pc' := 14) rfl rfl ?_
      refine wp_ret rfl rfl rfl ?_
      first | exact ⟨rfl, Or.inl ⟨rfl, by omega⟩⟩ | exact ⟨rfl, Or.inr ⟨rfl, by omega⟩⟩ | (exfalso; omega)
set_option maxRecDepth 20000 in
set_option maxHeartbeats 4000000 in
theorem c_VH_isWay {w : Hp} {d : Nat} {r : Int} : WP SH (d + 0) 125 0 [some (vI r)] [] w (fun v w' => w' = w ∧ ((v = some (vI 1) ∧ (0 ≤ r ∧ r < 5)) ∨ (v = some (vI 0) ∧ ¬ (0 ≤ r ∧ r < 5)))) := by
  refine wp_iload_n (pc' := 1) rfl rfl rfl ?_
  refine wp_if_lt (pc' := 4) (pt := 13) rfl rfl rfl (fun q_1 => ?_) (fun q_1 => ?_)
  · skip
    refine wp_iconst (a := 0) (pc' := 14) rfl rfl rfl ?_
    refine wp_ret rfl rfl rfl ?_
    first | exact ⟨rfl, Or.inl ⟨rfl, by omega⟩⟩ | exact ⟨rfl, Or.inr ⟨rfl, by omega⟩⟩ | (exfalso; omega)
  · skip
    refine wp_iload_n (pc' := 5) rfl rfl rfl ?_
    refine wp_iconst (a := 5) (pc' := 6) rfl rfl rfl ?_
    refine wp_icmp_ge (pc' := 9) (pt := 13) rfl rfl rfl (fun q_2 => ?_) (fun q_2 => ?_)
    · skip
      refine wp_iconst (a := 0) (pc' := 14) rfl rfl rfl ?_
      refine wp_ret rfl rfl rfl ?_
      first | exact ⟨rfl, Or.inl ⟨rfl, by omega⟩⟩ | exact ⟨rfl, Or.inr ⟨rfl, by omega⟩⟩ | (exfalso; omega)
    · skip
      refine wp_iconst (a := 1) (pc' := 10) rfl rfl rfl ?_
      refine wp_goto (pc' := 14) rfl rfl ?_
      refine wp_ret rfl rfl rfl ?_
      first | exact ⟨rfl, Or.inl ⟨rfl, by omega⟩⟩ | exact ⟨rfl, Or.inr ⟨rfl, by omega⟩⟩ | (exfalso; omega)
set_option maxRecDepth 20000 in
set_option maxHeartbeats 4000000 in
theorem c_Mod_in {w : Hp} {d : Nat} {x a b : Int} : WP SH (d + 0) 137 0 [some (vI x), some (vI a), some (vI b)] [] w (fun v w' => w' = w ∧ ((v = some (vI 1) ∧ (a ≤ x ∧ x ≤ b)) ∨ (v = some (vI 0) ∧ ¬ (a ≤ x ∧ x ≤ b)))) := by
  refine wp_iload_n (pc' := 1) rfl rfl rfl ?_
  refine wp_iload_n (pc' := 2) rfl rfl rfl ?_
  refine wp_icmp_lt (pc' := 5) (pt := 14) rfl rfl rfl (fun q_1 => ?_) (fun q_1 => ?_)
  · skip
    refine wp_iconst (a := 0) (pc' := 15) rfl rfl rfl ?_
    refine wp_ret rfl rfl rfl ?_
    first | exact ⟨rfl, Or.inl ⟨rfl, by omega⟩⟩ | exact ⟨rfl, Or.inr ⟨rfl, by omega⟩⟩ | (exfalso; omega)
  · skip
    refine wp_iload_n (pc' := 6) rfl rfl rfl ?_
    refine wp_iload_n (pc' := 7) rfl rfl rfl ?_
    refine wp_icmp_gt (pc' := 10) (pt := 14) rfl rfl rfl (fun q_2 => ?_) (fun q_2 => ?_)
    · skip
      refine wp_iconst (a := 0) (pc' := 15) rfl rfl rfl ?_
      refine wp_ret rfl rfl rfl ?_
      first | exact ⟨rfl, Or.inl ⟨rfl, by omega⟩⟩ | exact ⟨rfl, Or.inr ⟨rfl, by omega⟩⟩ | (exfalso; omega)
    · skip
      refine wp_iconst (a := 1) (pc' := 11) rfl rfl rfl ?_
      refine wp_goto (pc' := 15) rfl rfl ?_
      refine wp_ret rfl rfl rfl ?_
      first | exact ⟨rfl, Or.inl ⟨rfl, by omega⟩⟩ | exact ⟨rfl, Or.inr ⟨rfl, by omega⟩⟩ | (exfalso; omega)
set_option maxRecDepth 20000 in
set_option maxHeartbeats 4000000 in
theorem c_Mod_isRow {w : Hp} {d : Nat} {r : Int} : WP SH (d + 1) 148 0 [some (vI r)] [] w (fun v w' => w' = w ∧ ((v = some (vI 1) ∧ (0 ≤ r ∧ r < 6)) ∨ (v = some (vI 0) ∧ ¬ (0 ≤ r ∧ r < 6)))) := by
  refine wp_iload_n (pc' := 1) rfl rfl rfl ?_
  refine wp_iconst (a := 0) (pc' := 2) rfl rfl rfl ?_
  refine wp_iconst (a := 5) (pc' := 3) rfl rfl rfl ?_
  refine wp_call (pc' := 6) rfl rfl rfl rfl rfl ⟨Nat.le_of_ble_eq_true rfl, Nat.le_of_ble_eq_true rfl, Nat.le_of_ble_eq_true rfl, Nat.le_of_ble_eq_true rfl, Nat.le_of_ble_eq_true rfl⟩ rfl (c_Mod_in) ?_
  rintro v1 w1 ⟨hw1, ⟨hv1, hb1⟩ | ⟨hv1, hb1⟩⟩
  · skip
    rw [hv1, hw1]
    clear hv1 hw1 v1 w1
    dsimp only [Option.toList, List.cons_append, List.nil_append, List.append_nil]
    refine wp_ret rfl rfl rfl ?_
    first | exact ⟨rfl, Or.inl ⟨rfl, by omega⟩⟩ | exact ⟨rfl, Or.inr ⟨rfl, by omega⟩⟩ | (exfalso; omega)
  · skip
    rw [hv1, hw1]
    clear hv1 hw1 v1 w1
    dsimp only [Option.toList, List.cons_append, List.nil_append, List.append_nil]
    refine wp_ret rfl rfl rfl ?_
    first | exact ⟨rfl, Or.inl ⟨rfl, by omega⟩⟩ | exact ⟨rfl, Or.inr ⟨rfl, by omega⟩⟩ | (exfalso; omega)
set_option maxRecDepth 20000 in
set_option maxHeartbeats 4000000 in
theorem c_Mod_isText {w : Hp} {d : Nat} {r : Int} : WP SH (d + 1) 156 0 [some (vI r)] [] w (fun v w' => w' = w ∧ ((v = some (vI 1) ∧ (0 ≤ r ∧ r < 4)) ∨ (v = some (vI 0) ∧ ¬ (0 ≤ r ∧ r < 4)))) := by
  refine wp_iload_n (pc' := 1) rfl rfl rfl ?_
  refine wp_iconst (a := 0) (pc' := 2) rfl rfl rfl ?_
  refine wp_iconst (a := 3) (pc' := 3) rfl rfl rfl ?_
  refine wp_call (pc' := 6) rfl rfl rfl rfl rfl ⟨Nat.le_of_ble_eq_true rfl, Nat.le_of_ble_eq_true rfl, Nat.le_of_ble_eq_true rfl, Nat.le_of_ble_eq_true rfl, Nat.le_of_ble_eq_true rfl⟩ rfl (c_Mod_in) ?_
  rintro v1 w1 ⟨hw1, ⟨hv1, hb1⟩ | ⟨hv1, hb1⟩⟩
  · skip
    rw [hv1, hw1]
    clear hv1 hw1 v1 w1
    dsimp only [Option.toList, List.cons_append, List.nil_append, List.append_nil]
    refine wp_ret rfl rfl rfl ?_
    first | exact ⟨rfl, Or.inl ⟨rfl, by omega⟩⟩ | exact ⟨rfl, Or.inr ⟨rfl, by omega⟩⟩ | (exfalso; omega)
  · skip
    rw [hv1, hw1]
    clear hv1 hw1 v1 w1
    dsimp only [Option.toList, List.cons_append, List.nil_append, List.append_nil]
    refine wp_ret rfl rfl rfl ?_
    first | exact ⟨rfl, Or.inl ⟨rfl, by omega⟩⟩ | exact ⟨rfl, Or.inr ⟨rfl, by omega⟩⟩ | (exfalso; omega)
set_option maxRecDepth 20000 in
set_option maxHeartbeats 4000000 in
theorem c_Mod_isOne {w : Hp} {d : Nat} {i : Int} (hn : 0 ≤ w 100 10 ∧ w 100 10 ≤ 6) : WP SH (d + 1) 167 0 [some (vR 100), some (vI i)] [] w (fun v w' => w' = w ∧ ((v = some (vI 1) ∧ (0 ≤ i ∧ i < w 100 10)) ∨ (v = some (vI 0) ∧ ¬ (0 ≤ i ∧ i < w 100 10)))) := by
  refine wp_iload_n (pc' := 1) rfl rfl rfl ?_
  refine wp_iconst (a := 0) (pc' := 2) rfl rfl rfl ?_
  refine wp_aload_n (pc' := 3) rfl rfl rfl (by decide) ?_
  refine wp_getI (ci := 10) (k0 := 10) (pc' := 6) rfl rfl (by decide) (by first | assumption | rfl) ?_
  refine wp_iconst (a := 1) (pc' := 7) rfl rfl rfl ?_
  refine wp_isub (pc' := 8) rfl rfl (by first | exact w32_id (by omega) (by omega) | rfl) ?_
  refine wp_call (pc' := 11) rfl rfl rfl rfl rfl ⟨Nat.le_of_ble_eq_true rfl, Nat.le_of_ble_eq_true rfl, Nat.le_of_ble_eq_true rfl, Nat.le_of_ble_eq_true rfl, Nat.le_of_ble_eq_true rfl⟩ rfl (c_Mod_in) ?_
  rintro v1 w1 ⟨hw1, ⟨hv1, hb1⟩ | ⟨hv1, hb1⟩⟩
  · skip
    rw [hv1, hw1]
    clear hv1 hw1 v1 w1
    dsimp only [Option.toList, List.cons_append, List.nil_append, List.append_nil]
    refine wp_ret rfl rfl rfl ?_
    first | exact ⟨rfl, Or.inl ⟨rfl, by omega⟩⟩ | exact ⟨rfl, Or.inr ⟨rfl, by omega⟩⟩ | (exfalso; omega)
  · skip
    rw [hv1, hw1]
    clear hv1 hw1 v1 w1
    dsimp only [Option.toList, List.cons_append, List.nil_append, List.append_nil]
    refine wp_ret rfl rfl rfl ?_
    first | exact ⟨rfl, Or.inl ⟨rfl, by omega⟩⟩ | exact ⟨rfl, Or.inr ⟨rfl, by omega⟩⟩ | (exfalso; omega)
set_option maxRecDepth 20000 in
set_option maxHeartbeats 4000000 in
theorem c_Mod_isCell {w : Hp} {d : Nat} {i : Int} (hn : 0 ≤ w 100 11 * w 100 12 ∧ w 100 11 * w 100 12 ≤ 25) : WP SH (d + 1) 168 0 [some (vR 100), some (vI i)] [] w (fun v w' => w' = w ∧ ((v = some (vI 1) ∧ (0 ≤ i ∧ i < w 100 11 * w 100 12)) ∨ (v = some (vI 0) ∧ ¬ (0 ≤ i ∧ i < w 100 11 * w 100 12)))) := by
  refine wp_iload_n (pc' := 1) rfl rfl rfl ?_
  refine wp_iconst (a := 0) (pc' := 2) rfl rfl rfl ?_
  refine wp_aload_n (pc' := 3) rfl rfl rfl (by decide) ?_
  refine wp_getI (ci := 10) (k0 := 11) (pc' := 6) rfl rfl (by decide) (by first | assumption | rfl) ?_
  refine wp_aload_n (pc' := 7) rfl rfl rfl (by decide) ?_
  refine wp_getI (ci := 10) (k0 := 12) (pc' := 10) rfl rfl (by decide) (by first | assumption | rfl) ?_
  refine wp_imul (pc' := 11) rfl rfl (by first | exact w32_id (by omega) (by omega) | rfl) ?_
  refine wp_iconst (a := 1) (pc' := 12) rfl rfl rfl ?_
  refine wp_isub (pc' := 13) rfl rfl (by first | exact w32_id (by omega) (by omega) | rfl) ?_
  refine wp_call (pc' := 16) rfl rfl rfl rfl rfl ⟨Nat.le_of_ble_eq_true rfl, Nat.le_of_ble_eq_true rfl, Nat.le_of_ble_eq_true rfl, Nat.le_of_ble_eq_true rfl, Nat.le_of_ble_eq_true rfl⟩ rfl (c_Mod_in) ?_
  rintro v1 w1 ⟨hw1, ⟨hv1, hb1⟩ | ⟨hv1, hb1⟩⟩
  · skip
    rw [hv1, hw1]
    clear hv1 hw1 v1 w1
    dsimp only [Option.toList, List.cons_append, List.nil_append, List.append_nil]
    refine wp_ret rfl rfl rfl ?_
    first | exact ⟨rfl, Or.inl ⟨rfl, by omega⟩⟩ | exact ⟨rfl, Or.inr ⟨rfl, by omega⟩⟩ | (exfalso; omega)
  · skip
    rw [hv1, hw1]
    clear hv1 hw1 v1 w1
    dsimp only [Option.toList, List.cons_append, List.nil_append, List.append_nil]
    refine wp_ret rfl rfl rfl ?_
    first | exact ⟨rfl, Or.inl ⟨rfl, by omega⟩⟩ | exact ⟨rfl, Or.inr ⟨rfl, by omega⟩⟩ | (exfalso; omega)
set_option maxRecDepth 20000 in
set_option maxHeartbeats 4000000 in
theorem c_Mod_rowAt {w : Hp} {d : Nat} {r i : Int} (hT : Stc w) (hr : 0 ≤ r ∧ r < 6) (hi : 0 ≤ i ∧ i < 40) : WP SH (d + 0) 149 0 [some (vR 100), some (vI r), some (vI i)] [] w (fun v w' => v = some (vI (w 103 (40 * r + i))) ∧ w' = w) := by
  refine wp_aload_n (pc' := 1) rfl rfl rfl (by decide) ?_
  refine wp_getR (r' := 103) (ci := 10) (k0 := 6) (pc' := 4) rfl rfl (by decide) (by first | assumption | rfl) (hT.get 101 rfl) ?_
  refine wp_bipush (a := 40) (pc' := 6) rfl rfl rfl ?_
  refine wp_iload_n (pc' := 7) rfl rfl rfl ?_
  refine wp_imul (pc' := 8) rfl rfl (by first | exact w32_id (by omega) (by omega) | rfl) ?_
  refine wp_iload_n (pc' := 9) rfl rfl rfl ?_
  refine wp_iadd (pc' := 10) rfl rfl (by first | exact w32_id (by omega) (by omega) | rfl) ?_
  refine wp_iaload (pc' := 11) rfl rfl (by first | assumption | rfl) (by omega) ?_
  refine wp_ret rfl rfl rfl ?_
  exact ⟨rfl, rfl⟩
set_option maxRecDepth 20000 in
set_option maxHeartbeats 4000000 in
theorem c_Mod_need {w : Hp} {d : Nat} {g : Int} (hg : g = 0 ∨ g = 1) : WP SH (d + 0) 197 0 [some (vR 100), some (vI g)] [] w (fun v w' => w' = w ∧ ((v = some (vI (-1)) ∧ g = 0) ∨ (v = some (vI (-4)) ∧ g = 1 ∧ w 100 10 = 0) ∨ (v = some (vI 0) ∧ g = 1 ∧ w 100 10 ≠ 0))) := by
  refine wp_iload_n (pc' := 1) rfl rfl rfl ?_
  refine wp_if_ne (pc' := 4) (pt := 8) rfl rfl rfl (fun q_1 => ?_) (fun q_1 => ?_)
  · skip
    refine wp_aload_n (pc' := 9) rfl rfl rfl (by decide) ?_
    refine wp_getI (ci := 10) (k0 := 10) (pc' := 12) rfl rfl (by decide) (by first | assumption | rfl) ?_
    refine wp_if_ne (pc' := 15) (pt := 20) rfl rfl rfl (fun q_2 => ?_) (fun q_2 => ?_)
    · skip
      refine wp_iconst (a := 0) (pc' := 21) rfl rfl rfl ?_
      refine wp_ret rfl rfl rfl ?_
      first | exact ⟨rfl, Or.inl ⟨rfl, by omega⟩⟩ | exact ⟨rfl, Or.inr (Or.inl ⟨rfl, by omega, by omega⟩)⟩ | exact ⟨rfl, Or.inr (Or.inr ⟨rfl, by omega, by omega⟩)⟩ | (exfalso; omega)
    · skip
      refine wp_bipush (a := -4) (pc' := 17) rfl rfl rfl ?_
      refine wp_goto (pc' := 21) rfl rfl ?_
      refine wp_ret rfl rfl rfl ?_
      first | exact ⟨rfl, Or.inl ⟨rfl, by omega⟩⟩ | exact ⟨rfl, Or.inr (Or.inl ⟨rfl, by omega, by omega⟩)⟩ | exact ⟨rfl, Or.inr (Or.inr ⟨rfl, by omega, by omega⟩)⟩ | (exfalso; omega)
  · skip
    refine wp_iconst (a := -1) (pc' := 5) rfl rfl rfl ?_
    refine wp_goto (pc' := 21) rfl rfl ?_
    refine wp_ret rfl rfl rfl ?_
    first | exact ⟨rfl, Or.inl ⟨rfl, by omega⟩⟩ | exact ⟨rfl, Or.inr (Or.inl ⟨rfl, by omega, by omega⟩)⟩ | exact ⟨rfl, Or.inr (Or.inr ⟨rfl, by omega, by omega⟩)⟩ | (exfalso; omega)
set_option maxRecDepth 20000 in
set_option maxHeartbeats 4000000 in
theorem c_Land_isEmpty_3 {w : Hp} {d : Nat}  : WP SH (d + 0) 26 0 [some (vR 3)] [] w (fun v w' => w' = w ∧ ((v = some (vI 1) ∧ (w 3 0 = 0)) ∨ (v = some (vI 0) ∧ ¬ (w 3 0 = 0)))) := by
  refine wp_aload_n (pc' := 1) rfl rfl rfl (by decide) ?_
  refine wp_getI (ci := 3) (k0 := 0) (pc' := 4) rfl rfl (by decide) (by first | assumption | rfl) ?_
  refine wp_if_ne (pc' := 7) (pt := 11) rfl rfl rfl (fun q_1 => ?_) (fun q_1 => ?_)
  · skip
    refine wp_iconst (a := 0) (pc' := 12) rfl rfl rfl ?_
    refine wp_ret rfl rfl rfl ?_
    first | exact ⟨rfl, Or.inl ⟨rfl, by omega⟩⟩ | exact ⟨rfl, Or.inr ⟨rfl, by omega⟩⟩ | (exfalso; omega)
  · skip
    refine wp_iconst (a := 1) (pc' := 8) rfl rfl rfl ?_
    refine wp_goto (pc' := 12) rfl rfl ?_
    refine wp_ret rfl rfl rfl ?_
    first | exact ⟨rfl, Or.inl ⟨rfl, by omega⟩⟩ | exact ⟨rfl, Or.inr ⟨rfl, by omega⟩⟩ | (exfalso; omega)
set_option maxRecDepth 20000 in
set_option maxHeartbeats 4000000 in
theorem c_Land_isEmpty_73 {w : Hp} {d : Nat}  : WP SH (d + 0) 26 0 [some (vR 73)] [] w (fun v w' => w' = w ∧ ((v = some (vI 1) ∧ (w 73 0 = 0)) ∨ (v = some (vI 0) ∧ ¬ (w 73 0 = 0)))) := by
  refine wp_aload_n (pc' := 1) rfl rfl rfl (by decide) ?_
  refine wp_getI (ci := 3) (k0 := 0) (pc' := 4) rfl rfl (by decide) (by first | assumption | rfl) ?_
  refine wp_if_ne (pc' := 7) (pt := 11) rfl rfl rfl (fun q_1 => ?_) (fun q_1 => ?_)
  · skip
    refine wp_iconst (a := 0) (pc' := 12) rfl rfl rfl ?_
    refine wp_ret rfl rfl rfl ?_
    first | exact ⟨rfl, Or.inl ⟨rfl, by omega⟩⟩ | exact ⟨rfl, Or.inr ⟨rfl, by omega⟩⟩ | (exfalso; omega)
  · skip
    refine wp_iconst (a := 1) (pc' := 8) rfl rfl rfl ?_
    refine wp_goto (pc' := 12) rfl rfl ?_
    refine wp_ret rfl rfl rfl ?_
    first | exact ⟨rfl, Or.inl ⟨rfl, by omega⟩⟩ | exact ⟨rfl, Or.inr ⟨rfl, by omega⟩⟩ | (exfalso; omega)
set_option maxRecDepth 20000 in
set_option maxHeartbeats 4000000 in
theorem c_Land_isEmpty_82 {w : Hp} {d : Nat}  : WP SH (d + 0) 26 0 [some (vR 82)] [] w (fun v w' => w' = w ∧ ((v = some (vI 1) ∧ (w 82 0 = 0)) ∨ (v = some (vI 0) ∧ ¬ (w 82 0 = 0)))) := by
  refine wp_aload_n (pc' := 1) rfl rfl rfl (by decide) ?_
  refine wp_getI (ci := 3) (k0 := 0) (pc' := 4) rfl rfl (by decide) (by first | assumption | rfl) ?_
  refine wp_if_ne (pc' := 7) (pt := 11) rfl rfl rfl (fun q_1 => ?_) (fun q_1 => ?_)
  · skip
    refine wp_iconst (a := 0) (pc' := 12) rfl rfl rfl ?_
    refine wp_ret rfl rfl rfl ?_
    first | exact ⟨rfl, Or.inl ⟨rfl, by omega⟩⟩ | exact ⟨rfl, Or.inr ⟨rfl, by omega⟩⟩ | (exfalso; omega)
  · skip
    refine wp_iconst (a := 1) (pc' := 8) rfl rfl rfl ?_
    refine wp_goto (pc' := 12) rfl rfl ?_
    refine wp_ret rfl rfl rfl ?_
    first | exact ⟨rfl, Or.inl ⟨rfl, by omega⟩⟩ | exact ⟨rfl, Or.inr ⟨rfl, by omega⟩⟩ | (exfalso; omega)
set_option maxRecDepth 20000 in
set_option maxHeartbeats 4000000 in
theorem c_Land_isEmpty_91 {w : Hp} {d : Nat}  : WP SH (d + 0) 26 0 [some (vR 91)] [] w (fun v w' => w' = w ∧ ((v = some (vI 1) ∧ (w 91 0 = 0)) ∨ (v = some (vI 0) ∧ ¬ (w 91 0 = 0)))) := by
  refine wp_aload_n (pc' := 1) rfl rfl rfl (by decide) ?_
  refine wp_getI (ci := 3) (k0 := 0) (pc' := 4) rfl rfl (by decide) (by first | assumption | rfl) ?_
  refine wp_if_ne (pc' := 7) (pt := 11) rfl rfl rfl (fun q_1 => ?_) (fun q_1 => ?_)
  · skip
    refine wp_iconst (a := 0) (pc' := 12) rfl rfl rfl ?_
    refine wp_ret rfl rfl rfl ?_
    first | exact ⟨rfl, Or.inl ⟨rfl, by omega⟩⟩ | exact ⟨rfl, Or.inr ⟨rfl, by omega⟩⟩ | (exfalso; omega)
  · skip
    refine wp_iconst (a := 1) (pc' := 8) rfl rfl rfl ?_
    refine wp_goto (pc' := 12) rfl rfl ?_
    refine wp_ret rfl rfl rfl ?_
    first | exact ⟨rfl, Or.inl ⟨rfl, by omega⟩⟩ | exact ⟨rfl, Or.inr ⟨rfl, by omega⟩⟩ | (exfalso; omega)
set_option maxRecDepth 20000 in
set_option maxHeartbeats 4000000 in
theorem c_Land_cells {w : Hp} {d : Nat} (hn : 0 ≤ w 3 0 * w 3 1 ∧ w 3 0 * w 3 1 ≤ 25) : WP SH (d + 0) 27 0 [some (vR 3)] [] w (fun v w' => v = some (vI (w 3 0 * w 3 1)) ∧ w' = w) := by
  refine wp_aload_n (pc' := 1) rfl rfl rfl (by decide) ?_
  refine wp_getI (ci := 3) (k0 := 0) (pc' := 4) rfl rfl (by decide) (by first | assumption | rfl) ?_
  refine wp_aload_n (pc' := 5) rfl rfl rfl (by decide) ?_
  refine wp_getI (ci := 3) (k0 := 1) (pc' := 8) rfl rfl (by decide) (by first | assumption | rfl) ?_
  refine wp_imul (pc' := 9) rfl rfl (by first | exact w32_id (by omega) (by omega) | rfl) ?_
  refine wp_ret rfl rfl rfl ?_
  exact ⟨rfl, rfl⟩
set_option maxRecDepth 20000 in
set_option maxHeartbeats 4000000 in
theorem c_Land_hasCell {w : Hp} {d : Nat} {x : Int} (hn : 0 ≤ w 3 0 * w 3 1 ∧ w 3 0 * w 3 1 ≤ 25) : WP SH (d + 1) 28 0 [some (vR 3), some (vI x)] [] w (fun v w' => w' = w ∧ ((v = some (vI 1) ∧ (0 ≤ x ∧ x < w 3 0 * w 3 1)) ∨ (v = some (vI 0) ∧ ¬ (0 ≤ x ∧ x < w 3 0 * w 3 1)))) := by
  refine wp_iload_n (pc' := 1) rfl rfl rfl ?_
  refine wp_if_lt (pc' := 4) (pt := 16) rfl rfl rfl (fun q_1 => ?_) (fun q_1 => ?_)
  · skip
    refine wp_iconst (a := 0) (pc' := 17) rfl rfl rfl ?_
    refine wp_ret rfl rfl rfl ?_
    first | exact ⟨rfl, Or.inl ⟨rfl, by omega⟩⟩ | exact ⟨rfl, Or.inr ⟨rfl, by omega⟩⟩ | (exfalso; omega)
  · skip
    refine wp_iload_n (pc' := 5) rfl rfl rfl ?_
    refine wp_aload_n (pc' := 6) rfl rfl rfl (by decide) ?_
    refine wp_call (pc' := 9) rfl rfl rfl rfl rfl ⟨Nat.le_of_ble_eq_true rfl, Nat.le_of_ble_eq_true rfl, Nat.le_of_ble_eq_true rfl, Nat.le_of_ble_eq_true rfl, Nat.le_of_ble_eq_true rfl⟩ rfl (c_Land_cells hn) ?_
    intro v1 w1 hq1
    rw [hq1.1, hq1.2]
    clear hq1 v1 w1
    dsimp only [Option.toList, List.cons_append, List.nil_append, List.append_nil]
    refine wp_icmp_ge (pc' := 12) (pt := 16) rfl rfl rfl (fun q_2 => ?_) (fun q_2 => ?_)
    · skip
      refine wp_iconst (a := 0) (pc' := 17) rfl rfl rfl ?_
      refine wp_ret rfl rfl rfl ?_
      first | exact ⟨rfl, Or.inl ⟨rfl, by omega⟩⟩ | exact ⟨rfl, Or.inr ⟨rfl, by omega⟩⟩ | (exfalso; omega)
    · skip
      refine wp_iconst (a := 1) (pc' := 13) rfl rfl rfl ?_
      refine wp_goto (pc' := 17) rfl rfl ?_
      refine wp_ret rfl rfl rfl ?_
      first | exact ⟨rfl, Or.inl ⟨rfl, by omega⟩⟩ | exact ⟨rfl, Or.inr ⟨rfl, by omega⟩⟩ | (exfalso; omega)
set_option maxRecDepth 20000 in
set_option maxHeartbeats 4000000 in
theorem c_Land_hasOne {w : Hp} {d : Nat} {i : Int} : WP SH (d + 0) 29 0 [some (vR 3), some (vI i)] [] w (fun v w' => w' = w ∧ ((v = some (vI 1) ∧ (0 ≤ i ∧ i < w 3 2)) ∨ (v = some (vI 0) ∧ ¬ (0 ≤ i ∧ i < w 3 2)))) := by
  refine wp_iload_n (pc' := 1) rfl rfl rfl ?_
  refine wp_if_lt (pc' := 4) (pt := 16) rfl rfl rfl (fun q_1 => ?_) (fun q_1 => ?_)
  · skip
    refine wp_iconst (a := 0) (pc' := 17) rfl rfl rfl ?_
    refine wp_ret rfl rfl rfl ?_
    first | exact ⟨rfl, Or.inl ⟨rfl, by omega⟩⟩ | exact ⟨rfl, Or.inr ⟨rfl, by omega⟩⟩ | (exfalso; omega)
  · skip
    refine wp_iload_n (pc' := 5) rfl rfl rfl ?_
    refine wp_aload_n (pc' := 6) rfl rfl rfl (by decide) ?_
    refine wp_getI (ci := 3) (k0 := 2) (pc' := 9) rfl rfl (by decide) (by first | assumption | rfl) ?_
    refine wp_icmp_ge (pc' := 12) (pt := 16) rfl rfl rfl (fun q_2 => ?_) (fun q_2 => ?_)
    · skip
      refine wp_iconst (a := 0) (pc' := 17) rfl rfl rfl ?_
      refine wp_ret rfl rfl rfl ?_
      first | exact ⟨rfl, Or.inl ⟨rfl, by omega⟩⟩ | exact ⟨rfl, Or.inr ⟨rfl, by omega⟩⟩ | (exfalso; omega)
    · skip
      refine wp_iconst (a := 1) (pc' := 13) rfl rfl rfl ?_
      refine wp_goto (pc' := 17) rfl rfl ?_
      refine wp_ret rfl rfl rfl ?_
      first | exact ⟨rfl, Or.inl ⟨rfl, by omega⟩⟩ | exact ⟨rfl, Or.inr ⟨rfl, by omega⟩⟩ | (exfalso; omega)
