/-! course: the tables of the class, and the best ways -/
set_option maxRecDepth 20000 in
set_option maxHeartbeats 4000000 in
theorem l_bc1 {w : Hp} {d : Nat} {n pa : Int} {W : Int → Int} (hT0 : Stc w) (hr0 : ROw w) (hl : CL (w 3 0) (w 3 1)) (hWb : ∀ x : Int, Cel (w 3 0) (w 3 1) x → 0 ≤ W x ∧ W x ≤ 972) {cell : Int} {t : Nat} (hx : Cel (w 3 0) (w 3 1) cell) (hk : t ≤ 4) {Q : Option PV → Hp → Prop} (K : ∀ (w1 : Hp) (x7 : Option PV), PB w w1 (w 3 0) (w 3 1) W t (cell * 5 + 5) → WP SH (d + 4) 54 80 [some (vR 28), some (vR 3), some (vI n), some (vR pa), some (vI ((t : Int) + 1)), some (vI cell), some (vI 5), x7] [] w1 Q) : ∀ (k : Nat) (y : Int) (w1 : Hp) (x7 : Option PV), 0 ≤ y → y + k = 5 → PB w w1 (w 3 0) (w 3 1) W t (cell * 5 + y) → WP SH (d + 4) 54 29 [some (vR 28), some (vR 3), some (vI n), some (vR pa), some (vI ((t : Int) + 1)), some (vI cell), some (vI y), x7] [] w1 Q := by
  intro k
  induction k with
  | zero =>
    intro y w1 x7 h0 hyj hP
    obtain ⟨hS, hW, hTj, hTp⟩ := id hP
    have hT := hT0.same hS (by decide)
    have e3 : w1 3 = w 3 := hS 3 (by decide)
    have hr := hr0.same hS (by decide)
    have hml := hl.mul
    have hml0 : w1 3 0 * w1 3 1 = w 3 0 * w 3 1 := by rw [e3]
    have hl1 : CL (w1 3 0) (w1 3 1) := by rw [e3]; exact hl
    have hWb1 : ∀ x : Int, Cel (w1 3 0) (w1 3 1) x → 0 ≤ W x ∧ W x ≤ 972 := by rw [e3]; exact hWb
    have hW1 : ∀ x : Int, Cel (w1 3 0) (w1 3 1) x → w1 29 x = W x := by rw [e3]; exact hW
    have hx1 : Cel (w1 3 0) (w1 3 1) cell := by rw [e3]; exact hx
    have hxd := hx.dm hl
    have hTk : Tb w1 (w1 3 0) (w1 3 1) W t (5 * (w1 3 0 * w1 3 1)) := by rw [e3]; exact hTj t (Nat.le_refl t)
    have hbl := best_at hT (k := (t : Int) + 1) (by omega) (by omega)
    have hsh := hbl.2
    obtain ⟨hb1, hb2, hb3, -⟩ := @bwy_ok (w 3 0) (w 3 1) W t cell y
    have hx2 := (cgo_cel hl hx hb2).1
    refine wp_iload (pc' := 31) rfl rfl rfl ?_
    refine wp_iconst (a := 5) (pc' := 32) rfl rfl rfl ?_
    refine wp_icmp_ge (pc' := 35) (pt := 80) rfl rfl rfl (fun q_1 => ?_) (fun q_1 => ?_)
    · skip
      obtain rfl : y = 5 := by omega
      exact K w1 x7 hP
    · skip
      exfalso; omega
  | succ k ih =>
    intro y w1 x7 h0 hyj hP
    obtain ⟨hS, hW, hTj, hTp⟩ := id hP
    have hT := hT0.same hS (by decide)
    have e3 : w1 3 = w 3 := hS 3 (by decide)
    have hr := hr0.same hS (by decide)
    have hml := hl.mul
    have hml0 : w1 3 0 * w1 3 1 = w 3 0 * w 3 1 := by rw [e3]
    have hl1 : CL (w1 3 0) (w1 3 1) := by rw [e3]; exact hl
    have hWb1 : ∀ x : Int, Cel (w1 3 0) (w1 3 1) x → 0 ≤ W x ∧ W x ≤ 972 := by rw [e3]; exact hWb
    have hW1 : ∀ x : Int, Cel (w1 3 0) (w1 3 1) x → w1 29 x = W x := by rw [e3]; exact hW
    have hx1 : Cel (w1 3 0) (w1 3 1) cell := by rw [e3]; exact hx
    have hxd := hx.dm hl
    have hTk : Tb w1 (w1 3 0) (w1 3 1) W t (5 * (w1 3 0 * w1 3 1)) := by rw [e3]; exact hTj t (Nat.le_refl t)
    have hbl := best_at hT (k := (t : Int) + 1) (by omega) (by omega)
    have hsh := hbl.2
    obtain ⟨hb1, hb2, hb3, -⟩ := @bwy_ok (w 3 0) (w 3 1) W t cell y
    have hx2 := (cgo_cel hl hx hb2).1
    refine wp_iload (pc' := 31) rfl rfl rfl ?_
    refine wp_iconst (a := 5) (pc' := 32) rfl rfl rfl ?_
    refine wp_icmp_ge (pc' := 35) (pt := 80) rfl rfl rfl (fun q_1 => ?_) (fun q_1 => ?_)
    · skip
      exfalso; omega
    · skip
      refine wp_aload_n (pc' := 36) rfl rfl rfl (by decide) ?_
      refine wp_aload_n (pc' := 37) rfl rfl rfl (by decide) ?_
      refine wp_iload (pc' := 39) rfl rfl rfl ?_
      refine wp_iload (pc' := 41) rfl rfl rfl ?_
      refine wp_iload (pc' := 43) rfl rfl rfl ?_
      refine wp_call (pc' := 46) rfl rfl rfl rfl rfl ⟨Nat.le_of_ble_eq_true rfl, Nat.le_of_ble_eq_true rfl, Nat.le_of_ble_eq_true rfl, Nat.le_of_ble_eq_true rfl, Nat.le_of_ble_eq_true rfl⟩ rfl (c_Plans_bestWay hT hr hl1 hx1 hk rfl hW1 hWb1 hTk) ?_
      intro v1 w9 hq1
      rw [hq1.1, hq1.2]
      clear hq1 v1 w9
      rw [e3]
      dsimp only [Option.toList, List.cons_append, List.nil_append, List.append_nil]
      refine wp_istore (pc' := 48) rfl rfl (Nat.le_of_ble_eq_true rfl) rfl ?_
      dsimp only [lset, lset2, List.set, List.getElem?_cons_zero, List.getElem?_cons_succ]
      refine wp_aload_n (pc' := 49) rfl rfl rfl (by decide) ?_
      refine wp_getR (r' := 30) (ci := 5) (k0 := 1) (pc' := 52) rfl rfl (by decide) (by first | assumption | rfl) (hT.get 46 rfl) ?_
      refine wp_iload (pc' := 54) rfl rfl rfl ?_
      refine wp_aaload (r' := 31 + ((t : Int) + 1)) (pc' := 55) rfl rfl (by first | assumption | rfl) rfl (by omega) (hbl.1) ?_
      refine wp_iload (pc' := 57) rfl rfl rfl ?_
      refine wp_iconst (a := 5) (pc' := 58) rfl rfl rfl ?_
      refine wp_imul (pc' := 59) rfl rfl (by first | exact w32_id (by omega) (by omega) | rfl) ?_
      refine wp_iload (pc' := 61) rfl rfl rfl ?_
      refine wp_iadd (pc' := 62) rfl rfl (by first | exact w32_id (by omega) (by omega) | rfl) ?_
      refine wp_aload_n (pc' := 63) rfl rfl rfl (by decide) ?_
      refine wp_aload_n (pc' := 64) rfl rfl rfl (by decide) ?_
      refine wp_iload (pc' := 66) rfl rfl rfl ?_
      refine wp_iload (pc' := 68) rfl rfl rfl ?_
      refine wp_iload (pc' := 70) rfl rfl rfl ?_
      refine wp_call (pc' := 73) rfl rfl rfl rfl rfl ⟨Nat.le_of_ble_eq_true rfl, Nat.le_of_ble_eq_true rfl, Nat.le_of_ble_eq_true rfl, Nat.le_of_ble_eq_true rfl, Nat.le_of_ble_eq_true rfl⟩ rfl (c_Plans_gainedBy hT hr hl1 hx1 hk rfl hW1 hWb1 hTk hb1 (by rw [e3]; omega)) ?_
      intro v1 w9 hq1
      rw [hq1.1, hq1.2]
      clear hq1 v1 w9
      rw [e3]
      dsimp only [Option.toList, List.cons_append, List.nil_append, List.append_nil]
      refine wp_iastore (pc' := 74) rfl rfl (by first | assumption | rfl) (by omega) ?_
      refine wp_iinc (pc' := 77) rfl rfl rfl (inc_id (by omega) (by omega)) rfl ?_
      dsimp only [lset, lset2, List.set, List.getElem?_cons_zero, List.getElem?_cons_succ]
      refine wp_goto (pc' := 29) rfl rfl ?_
      rw [← hb3]
      refine ih (y + 1) _ _ (by omega) (by omega) ?_
      have h9 := hP.step hk rfl (show 0 ≤ y ∧ y < 5 by omega)
      rw [Int.add_assoc (cell * 5)] at h9
      exact h9
set_option maxRecDepth 20000 in
set_option maxHeartbeats 4000000 in
theorem l_bc2 {w : Hp} {d : Nat} {n pa : Int} {W : Int → Int} (hT0 : Stc w) (hr0 : ROw w) (hl : CL (w 3 0) (w 3 1)) (hWb : ∀ x : Int, Cel (w 3 0) (w 3 1) x → 0 ≤ W x ∧ W x ≤ 972) {t : Nat} (hk : t ≤ 4) {Q : Option PV → Hp → Prop} (K : ∀ (w1 : Hp) (x6 x7 : Option PV), PB w w1 (w 3 0) (w 3 1) W t (5 * (w 3 0 * w 3 1)) → WP SH (d + 4) 54 86 [some (vR 28), some (vR 3), some (vI n), some (vR pa), some (vI ((t : Int) + 1)), some (vI (w 3 0 * w 3 1)), x6, x7] [] w1 Q) : ∀ (k : Nat) (y : Int) (w1 : Hp) (x6 x7 : Option PV), 0 ≤ y → y + k = w 3 0 * w 3 1 → PB w w1 (w 3 0) (w 3 1) W t (y * 5) → WP SH (d + 4) 54 17 [some (vR 28), some (vR 3), some (vI n), some (vR pa), some (vI ((t : Int) + 1)), some (vI y), x6, x7] [] w1 Q := by
  intro k
  induction k with
  | zero =>
    intro y w1 x6 x7 h0 hyj hP
    obtain ⟨hS, hW, hTj, hTp⟩ := id hP
    have hT := hT0.same hS (by decide)
    have e3 : w1 3 = w 3 := hS 3 (by decide)
    have hr := hr0.same hS (by decide)
    have hml := hl.mul
    have hml0 : w1 3 0 * w1 3 1 = w 3 0 * w 3 1 := by rw [e3]
    have hl1 : CL (w1 3 0) (w1 3 1) := by rw [e3]; exact hl
    have hWb1 : ∀ x : Int, Cel (w1 3 0) (w1 3 1) x → 0 ≤ W x ∧ W x ≤ 972 := by rw [e3]; exact hWb
    have hW1 : ∀ x : Int, Cel (w1 3 0) (w1 3 1) x → w1 29 x = W x := by rw [e3]; exact hW
    refine wp_iload (pc' := 19) rfl rfl rfl ?_
    refine wp_aload_n (pc' := 20) rfl rfl rfl (by decide) ?_
    refine wp_call (pc' := 23) rfl rfl rfl rfl rfl ⟨Nat.le_of_ble_eq_true rfl, Nat.le_of_ble_eq_true rfl, Nat.le_of_ble_eq_true rfl, Nat.le_of_ble_eq_true rfl, Nat.le_of_ble_eq_true rfl⟩ rfl (c_Land_cells (by omega)) ?_
    intro v1 w9 hq1
    rw [hq1.1, hq1.2]
    clear hq1 v1 w9
    dsimp only [Option.toList, List.cons_append, List.nil_append, List.append_nil]
    refine wp_icmp_ge (pc' := 26) (pt := 86) rfl rfl rfl (fun q_1 => ?_) (fun q_1 => ?_)
    · skip
      obtain rfl : y = w 3 0 * w 3 1 := by omega
      exact K w1 _ _ (by rw [Int.mul_comm]; exact hP)
    · skip
      exfalso; omega
  | succ k ih =>
    intro y w1 x6 x7 h0 hyj hP
    obtain ⟨hS, hW, hTj, hTp⟩ := id hP
    have hT := hT0.same hS (by decide)
    have e3 : w1 3 = w 3 := hS 3 (by decide)
    have hr := hr0.same hS (by decide)
    have hml := hl.mul
    have hml0 : w1 3 0 * w1 3 1 = w 3 0 * w 3 1 := by rw [e3]
    have hl1 : CL (w1 3 0) (w1 3 1) := by rw [e3]; exact hl
    have hWb1 : ∀ x : Int, Cel (w1 3 0) (w1 3 1) x → 0 ≤ W x ∧ W x ≤ 972 := by rw [e3]; exact hWb
    have hW1 : ∀ x : Int, Cel (w1 3 0) (w1 3 1) x → w1 29 x = W x := by rw [e3]; exact hW
    refine wp_iload (pc' := 19) rfl rfl rfl ?_
    refine wp_aload_n (pc' := 20) rfl rfl rfl (by decide) ?_
    refine wp_call (pc' := 23) rfl rfl rfl rfl rfl ⟨Nat.le_of_ble_eq_true rfl, Nat.le_of_ble_eq_true rfl, Nat.le_of_ble_eq_true rfl, Nat.le_of_ble_eq_true rfl, Nat.le_of_ble_eq_true rfl⟩ rfl (c_Land_cells (by omega)) ?_
    intro v1 w9 hq1
    rw [hq1.1, hq1.2]
    clear hq1 v1 w9
    dsimp only [Option.toList, List.cons_append, List.nil_append, List.append_nil]
    refine wp_icmp_ge (pc' := 26) (pt := 86) rfl rfl rfl (fun q_1 => ?_) (fun q_1 => ?_)
    · skip
      exfalso; omega
    · skip
      refine wp_iconst (a := 0) (pc' := 27) rfl rfl rfl ?_
      refine wp_istore (pc' := 29) rfl rfl (Nat.le_of_ble_eq_true rfl) rfl ?_
      dsimp only [lset, lset2, List.set, List.getElem?_cons_zero, List.getElem?_cons_succ]
      refine l_bc1 hT0 hr0 hl hWb ⟨h0, by omega⟩ hk (fun w2 x7 hP2 => ?_) 5 0 w1 _ (by decide) (by decide) (by rw [Int.add_zero]; exact hP)
      refine wp_iinc (pc' := 83) rfl rfl rfl (inc_id (by omega) (by omega)) rfl ?_
      dsimp only [lset, lset2, List.set, List.getElem?_cons_zero, List.getElem?_cons_succ]
      refine wp_goto (pc' := 17) rfl rfl ?_
      exact ih (y + 1) w2 _ _ (by omega) (by omega) (by rw [show (y + 1) * 5 = y * 5 + 5 by omega]; exact hP2)
set_option maxRecDepth 20000 in
set_option maxHeartbeats 4000000 in
theorem l_bc3 {w : Hp} {d : Nat} {n pa : Int} {W : Int → Int} (hT0 : Stc w) (hr0 : ROw w) (hl : CL (w 3 0) (w 3 1)) (hWb : ∀ x : Int, Cel (w 3 0) (w 3 1) x → 0 ≤ W x ∧ W x ≤ 972) (hn : 0 ≤ n ∧ n ≤ 5) {Q : Option PV → Hp → Prop} (K : ∀ (w1 : Hp) (x5 x6 x7 : Option PV), PB w w1 (w 3 0) (w 3 1) W n.toNat 0 → WP SH (d + 4) 54 92 [some (vR 28), some (vR 3), some (vI n), some (vR pa), some (vI (n + 1)), x5, x6, x7] [] w1 Q) : ∀ (k t : Nat) (y : Int) (w1 : Hp) (x5 x6 x7 : Option PV), y = (t : Int) + 1 → (t : Int) + k = n → PB w w1 (w 3 0) (w 3 1) W t 0 → WP SH (d + 4) 54 8 [some (vR 28), some (vR 3), some (vI n), some (vR pa), some (vI y), x5, x6, x7] [] w1 Q := by
  intro k
  induction k with
  | zero =>
    intro t y w1 x5 x6 x7 hy hkj hP
    obtain ⟨hS, hW, hTj, hTp⟩ := id hP
    have hT := hT0.same hS (by decide)
    have e3 : w1 3 = w 3 := hS 3 (by decide)
    have hr := hr0.same hS (by decide)
    have hml := hl.mul
    have hml0 : w1 3 0 * w1 3 1 = w 3 0 * w 3 1 := by rw [e3]
    have hl1 : CL (w1 3 0) (w1 3 1) := by rw [e3]; exact hl
    have hWb1 : ∀ x : Int, Cel (w1 3 0) (w1 3 1) x → 0 ≤ W x ∧ W x ≤ 972 := by rw [e3]; exact hWb
    have hW1 : ∀ x : Int, Cel (w1 3 0) (w1 3 1) x → w1 29 x = W x := by rw [e3]; exact hW
    refine wp_iload (pc' := 10) rfl rfl rfl ?_
    refine wp_iload_n (pc' := 11) rfl rfl rfl ?_
    refine wp_icmp_gt (pc' := 14) (pt := 92) rfl rfl rfl (fun q_1 => ?_) (fun q_1 => ?_)
    · skip
      obtain rfl : t = n.toNat := by omega
      obtain rfl : y = n + 1 := by omega
      exact K w1 _ _ _ hP
    · skip
      exfalso; omega
  | succ k ih =>
    intro t y w1 x5 x6 x7 hy hkj hP
    obtain ⟨hS, hW, hTj, hTp⟩ := id hP
    have hT := hT0.same hS (by decide)
    have e3 : w1 3 = w 3 := hS 3 (by decide)
    have hr := hr0.same hS (by decide)
    have hml := hl.mul
    have hml0 : w1 3 0 * w1 3 1 = w 3 0 * w 3 1 := by rw [e3]
    have hl1 : CL (w1 3 0) (w1 3 1) := by rw [e3]; exact hl
    have hWb1 : ∀ x : Int, Cel (w1 3 0) (w1 3 1) x → 0 ≤ W x ∧ W x ≤ 972 := by rw [e3]; exact hWb
    have hW1 : ∀ x : Int, Cel (w1 3 0) (w1 3 1) x → w1 29 x = W x := by rw [e3]; exact hW
    refine wp_iload (pc' := 10) rfl rfl rfl ?_
    refine wp_iload_n (pc' := 11) rfl rfl rfl ?_
    refine wp_icmp_gt (pc' := 14) (pt := 92) rfl rfl rfl (fun q_1 => ?_) (fun q_1 => ?_)
    · skip
      exfalso; omega
    · skip
      refine wp_iconst (a := 0) (pc' := 15) rfl rfl rfl ?_
      refine wp_istore (pc' := 17) rfl rfl (Nat.le_of_ble_eq_true rfl) rfl ?_
      dsimp only [lset, lset2, List.set, List.getElem?_cons_zero, List.getElem?_cons_succ]
      subst hy
      refine l_bc2 hT0 hr0 hl hWb (t := t) (by omega) (fun w2 x6 x7 hP2 => ?_) (w 3 0 * w 3 1).toNat 0 w1 _ _ (by decide) (by omega) (by rw [Int.zero_mul]; exact hP)
      refine wp_iinc (pc' := 89) rfl rfl rfl (inc_id (by omega) (by omega)) rfl ?_
      dsimp only [lset, lset2, List.set, List.getElem?_cons_zero, List.getElem?_cons_succ]
      refine wp_goto (pc' := 8) rfl rfl ?_
      exact ih (t + 1) _ w2 _ _ _ (by omega) (by omega) hP2.next
set_option maxRecDepth 20000 in
set_option maxHeartbeats 4000000 in
theorem l_bc4 {w : Hp} {d : Nat} {n r : Int} {W : Int → Int} {C : Nat} (hT0 : Stc w) (hr0 : ROw w) (hl : CL (w 3 0) (w 3 1)) (hWb : ∀ x : Int, Cel (w 3 0) (w 3 1) x → 0 ≤ W x ∧ W x ≤ 972) (hW : ∀ x : Int, Cel (w 3 0) (w 3 1) x → w 29 x = W x) (hn : 0 ≤ n ∧ n ≤ 5) (hrr : 0 ≤ r ∧ r < 6) (hx0 : Cel (w 3 0) (w 3 1) (w 3 3)) (hb0 : 0 ≤ w 3 4 ∧ w 3 4 ≤ 4) (hTj : ∀ t : Nat, t ≤ n.toNat → Tb w (w 3 0) (w 3 1) W t (5 * (w 3 0 * w 3 1))) : ∀ (k : Nat) (y cell back : Int) (w1 : Hp) (x7 : Option PV), 0 ≤ y → y + k = n → Cel (w 3 0) (w 3 1) cell → Same w w1 [54 + 2 * r] → (∀ i : Int, 0 ≤ i → i < y → w1 (54 + 2 * r) i = dg C (n - 1 - i).toNat) → C % 5 ^ k = bcd (w 3 0) (w 3 1) W k cell back → WP SH (d + 4) 54 107 [some (vR 28), some (vR 3), some (vI n), some (vR (54 + 2 * r)), some (vI cell), some (vI back), some (vI y), x7] [] w1 (fun v w' => v = some (vI (bst (w 3 0) (w 3 1) W n.toNat (w 3 3) (w 3 4))) ∧ Same w w' [54 + 2 * r] ∧ ∀ i : Int, 0 ≤ i → i < n → w' (54 + 2 * r) i = dg C (n - 1 - i).toNat) := by
  intro k
  induction k with
  | zero =>
    intro y cell back w1 x7 h0 hyj hx hS hz hC
    have hT := hT0.row hrr.1 hrr.2 (hS.F _)
    have e3 : w1 3 = w 3 := hS 3 (by simp; omega)
    have hr : ROw w1 := hr0.same hS ⟨by simp; omega, by simp; omega, by simp; omega⟩
    have hl1 : CL (w1 3 0) (w1 3 1) := by rw [e3]; exact hl
    have hWb1 : ∀ x : Int, Cel (w1 3 0) (w1 3 1) x → 0 ≤ W x ∧ W x ≤ 972 := by rw [e3]; exact hWb
    have hW1 : ∀ x : Int, Cel (w1 3 0) (w1 3 1) x → w1 29 x = W x := by rw [e3, hS 29 (by simp; omega)]; exact hW
    have hx1 : Cel (w1 3 0) (w1 3 1) cell := by rw [e3]; exact hx
    have hst := strip_row hT hrr.1 hrr.2
    have hs1 := hst.1.2.1
    have hbn := best_at hT hn.1 hn.2
    have hsh := hbn.2
    have hx0d := hx0.dm hl
    have hm3 : w1 3 3 = w 3 3 := by rw [e3]
    have hm4 : w1 3 4 = w 3 4 := by rw [e3]
    refine wp_iload (pc' := 109) rfl rfl rfl ?_
    refine wp_iload_n (pc' := 110) rfl rfl rfl ?_
    refine wp_icmp_ge (pc' := 113) (pt := 164) rfl rfl rfl (fun q_1 => ?_) (fun q_1 => ?_)
    · skip
      refine wp_aload_n (pc' := 165) rfl rfl rfl (by decide) ?_
      refine wp_getR (r' := 30) (ci := 5) (k0 := 1) (pc' := 168) rfl rfl (by decide) (by first | assumption | rfl) (hT.get 46 rfl) ?_
      refine wp_iload_n (pc' := 169) rfl rfl rfl ?_
      refine wp_aaload (r' := 31 + n) (pc' := 170) rfl rfl (by first | assumption | rfl) rfl (by omega) (hbn.1) ?_
      refine wp_aload_n (pc' := 171) rfl rfl rfl (by decide) ?_
      refine wp_getI (ci := 3) (k0 := 3) (pc' := 174) rfl rfl (by decide) (by first | assumption | rfl) ?_
      refine wp_iconst (a := 5) (pc' := 175) rfl rfl rfl ?_
      refine wp_imul (pc' := 176) rfl rfl (by first | exact w32_id (by omega) (by omega) | rfl) ?_
      refine wp_aload_n (pc' := 177) rfl rfl rfl (by decide) ?_
      refine wp_getI (ci := 3) (k0 := 4) (pc' := 180) rfl rfl (by decide) (by first | assumption | rfl) ?_
      refine wp_iadd (pc' := 181) rfl rfl (by first | exact w32_id (by omega) (by omega) | rfl) ?_
      refine wp_iaload (pc' := 182) rfl rfl (by first | assumption | rfl) (by omega) ?_
      refine wp_ret rfl rfl rfl ?_
      refine ⟨congrArg (fun z => some (vI z)) ?_, hS, fun i i0 i1 => hz i i0 (by omega)⟩
      have h8 := (hTj n.toNat (Nat.le_refl _)).at hx0 hb0
      rw [Int.toNat_of_nonneg hn.1] at h8
      rw [hm3, hm4, hS (31 + n) (by simp; omega)]
      exact h8
    · skip
      exfalso; omega
  | succ k ih =>
    intro y cell back w1 x7 h0 hyj hx hS hz hC
    have hT := hT0.row hrr.1 hrr.2 (hS.F _)
    have e3 : w1 3 = w 3 := hS 3 (by simp; omega)
    have hr : ROw w1 := hr0.same hS ⟨by simp; omega, by simp; omega, by simp; omega⟩
    have hl1 : CL (w1 3 0) (w1 3 1) := by rw [e3]; exact hl
    have hWb1 : ∀ x : Int, Cel (w1 3 0) (w1 3 1) x → 0 ≤ W x ∧ W x ≤ 972 := by rw [e3]; exact hWb
    have hW1 : ∀ x : Int, Cel (w1 3 0) (w1 3 1) x → w1 29 x = W x := by rw [e3, hS 29 (by simp; omega)]; exact hW
    have hx1 : Cel (w1 3 0) (w1 3 1) cell := by rw [e3]; exact hx
    have hst := strip_row hT hrr.1 hrr.2
    have hs1 := hst.1.2.1
    have hbn := best_at hT hn.1 hn.2
    have hsh := hbn.2
    have hx0d := hx0.dm hl
    have hm3 : w1 3 3 = w 3 3 := by rw [e3]
    have hm4 : w1 3 4 = w 3 4 := by rw [e3]
    have hTk : Tb w1 (w1 3 0) (w1 3 1) W k (5 * (w1 3 0 * w1 3 1)) := by
      intro z z0 z1
      rw [e3] at z1 ⊢
      rw [hS (31 + (k : Int)) (by simp; omega)]
      exact hTj k (by omega) z z0 z1
    obtain ⟨hf1, hf2⟩ := bcd_fig hC
    obtain ⟨hbw1, hbw2, -, -⟩ := @bwy_ok (w 3 0) (w 3 1) W k cell back
    have hx9 := cgo_cel hl hx hbw2
    refine wp_iload (pc' := 109) rfl rfl rfl ?_
    refine wp_iload_n (pc' := 110) rfl rfl rfl ?_
    refine wp_icmp_ge (pc' := 113) (pt := 164) rfl rfl rfl (fun q_1 => ?_) (fun q_1 => ?_)
    · skip
      exfalso; omega
    · skip
      refine wp_iload (pc' := 115) rfl rfl rfl ?_
      refine wp_aload_n (pc' := 116) rfl rfl rfl (by omega) ?_
      refine wp_alen (pc' := 117) rfl rfl (by first | assumption | rfl) (by first | decide | omega) ?_
      refine wp_icmp_ge (pc' := 120) (pt := 164) rfl rfl rfl (fun q_2 => ?_) (fun q_2 => ?_)
      · skip
        exfalso; omega
      · skip
        refine wp_aload_n (pc' := 121) rfl rfl rfl (by omega) ?_
        refine wp_iload (pc' := 123) rfl rfl rfl ?_
        refine wp_aload_n (pc' := 124) rfl rfl rfl (by decide) ?_
        refine wp_aload_n (pc' := 125) rfl rfl rfl (by decide) ?_
        refine wp_iload_n (pc' := 126) rfl rfl rfl ?_
        refine wp_iload (pc' := 128) rfl rfl rfl ?_
        refine wp_isub (pc' := 129) rfl rfl (by first | exact w32_id (by omega) (by omega) | rfl) ?_
        refine wp_iload (pc' := 131) rfl rfl rfl ?_
        refine wp_iload (pc' := 133) rfl rfl rfl ?_
        refine wp_call (pc' := 136) rfl rfl rfl rfl rfl ⟨Nat.le_of_ble_eq_true rfl, Nat.le_of_ble_eq_true rfl, Nat.le_of_ble_eq_true rfl, Nat.le_of_ble_eq_true rfl, Nat.le_of_ble_eq_true rfl⟩ rfl (c_Plans_bestWay hT hr hl1 hx1 (k := k) (by omega) (by omega) hW1 hWb1 hTk) ?_
        intro v1 w9 hq1
        rw [hq1.1, hq1.2]
        clear hq1 v1 w9
        rw [e3]
        dsimp only [Option.toList, List.cons_append, List.nil_append, List.append_nil]
        refine wp_iastore (pc' := 137) rfl rfl (by first | assumption | rfl) (by omega) ?_
        refine wp_gen (fun w3 hw3 => ?_)
        have hS3 : Same w w3 [54 + 2 * r] := by rw [hw3]; exact hS.put (by simp)
        have hy3 : w3 (54 + 2 * r) y = bwy (w 3 0) (w 3 1) W k cell back := by rw [hw3, up_eq]
        have ho3 : ∀ i : Int, i ≠ y → w3 (54 + 2 * r) i = w1 (54 + 2 * r) i := fun i hi => by rw [hw3, up_at hi]
        clear hw3
        have hT := hT0.row hrr.1 hrr.2 (hS3.F _)
        have e3 : w3 3 = w 3 := hS3 3 (by simp; omega)
        have hr : ROw w3 := hr0.same hS3 ⟨by simp; omega, by simp; omega, by simp; omega⟩
        have hl1 : CL (w3 3 0) (w3 3 1) := by rw [e3]; exact hl
        have hWb1 : ∀ x : Int, Cel (w3 3 0) (w3 3 1) x → 0 ≤ W x ∧ W x ≤ 972 := by rw [e3]; exact hWb
        have hW1 : ∀ x : Int, Cel (w3 3 0) (w3 3 1) x → w3 29 x = W x := by rw [e3, hS3 29 (by simp; omega)]; exact hW
        have hx1 : Cel (w3 3 0) (w3 3 1) cell := by rw [e3]; exact hx
        refine wp_aload_n (pc' := 138) rfl rfl rfl (by decide) ?_
        refine wp_iload (pc' := 140) rfl rfl rfl ?_
        refine wp_aload_n (pc' := 141) rfl rfl rfl (by omega) ?_
        refine wp_iload (pc' := 143) rfl rfl rfl ?_
        refine wp_iaload (pc' := 144) rfl rfl (by first | assumption | rfl) (by omega) ?_
        rw [hy3]
        refine wp_call (pc' := 147) rfl rfl rfl rfl rfl ⟨Nat.le_of_ble_eq_true rfl, Nat.le_of_ble_eq_true rfl, Nat.le_of_ble_eq_true rfl, Nat.le_of_ble_eq_true rfl, Nat.le_of_ble_eq_true rfl⟩ rfl (c_Land_beside hl1 hx1) ?_
        intro v1 w9 hq1
        rw [hq1.1, hq1.2]
        clear hq1 v1 w9
        rw [e3]
        dsimp only [Option.toList, List.cons_append, List.nil_append, List.append_nil]
        refine wp_istore (pc' := 149) rfl rfl (Nat.le_of_ble_eq_true rfl) rfl ?_
        dsimp only [lset, lset2, List.set, List.getElem?_cons_zero, List.getElem?_cons_succ]
        refine wp_aload_n (pc' := 150) rfl rfl rfl (by omega) ?_
        refine wp_iload (pc' := 152) rfl rfl rfl ?_
        refine wp_iaload (pc' := 153) rfl rfl (by first | assumption | rfl) (by omega) ?_
        rw [hy3]
        refine wp_call (pc' := 156) rfl rfl rfl rfl rfl ⟨Nat.le_of_ble_eq_true rfl, Nat.le_of_ble_eq_true rfl, Nat.le_of_ble_eq_true rfl, Nat.le_of_ble_eq_true rfl, Nat.le_of_ble_eq_true rfl⟩ rfl (c_Land_against hr hbw1) ?_
        intro v1 w9 hq1
        rw [hq1.1, hq1.2]
        clear hq1 v1 w9
        dsimp only [Option.toList, List.cons_append, List.nil_append, List.append_nil]
        refine wp_istore (pc' := 158) rfl rfl (Nat.le_of_ble_eq_true rfl) rfl ?_
        dsimp only [lset, lset2, List.set, List.getElem?_cons_zero, List.getElem?_cons_succ]
        refine wp_iinc (pc' := 161) rfl rfl rfl (inc_id (by omega) (by omega)) rfl ?_
        dsimp only [lset, lset2, List.set, List.getElem?_cons_zero, List.getElem?_cons_succ]
        refine wp_goto (pc' := 107) rfl rfl ?_
        refine ih (y + 1) _ _ w3 _ (by omega) (by omega) hx9 hS3 (fun i i0 i1 => ?_) hf2
        by_cases hi : i = y
        · rw [hi, hy3, ← hf1, show (n - 1 - y).toNat = k by omega]
        · rw [ho3 i hi]
          exact hz i i0 (by omega)
set_option maxRecDepth 20000 in
set_option maxHeartbeats 4000000 in
theorem c_Plans_bestCourse {w : Hp} {d : Nat} {n r : Int} (hT : Stc w) (hr0 : ROw w) (hl : LnOK w) (hx : Cel (w 3 0) (w 3 1) (w 3 3)) (hb0 : 0 ≤ w 3 4 ∧ w 3 4 ≤ 4) (hn : 0 ≤ n ∧ n ≤ 5) (hrr : 0 ≤ r ∧ r < 6) (h31 : ∀ j : Int, 0 ≤ j → j < 125 → w 31 j = 0) : WP SH (d + 4) 54 0 [some (vR 28), some (vR 3), some (vI n), some (vR (54 + 2 * r)), none, none, none, none] [] w (fun v w' => v = some (vI (bst (w 3 0) (w 3 1) (fun x => sumI (fWorth (w 3 0) (w 4) (w 5) (w 6) x) (w 3 2)) n.toNat (w 3 3) (w 3 4))) ∧ Same w w' [29, 32, 33, 34, 35, 36, 54 + 2 * r] ∧ ∀ i : Int, 0 ≤ i → i < n → w' (54 + 2 * r) i = dg (bcd (w 3 0) (w 3 1) (fun x => sumI (fWorth (w 3 0) (w 4) (w 5) (w 6) x) (w 3 2)) n.toNat (w 3 3) (w 3 4)) (n - 1 - i).toNat) := by
  have hl6 := hl.2.1
  refine wp_aload_n (pc' := 1) rfl rfl rfl (by decide) ?_
  refine wp_aload_n (pc' := 2) rfl rfl rfl (by decide) ?_
  refine wp_call (pc' := 5) rfl rfl rfl rfl rfl ⟨Nat.le_of_ble_eq_true rfl, Nat.le_of_ble_eq_true rfl, Nat.le_of_ble_eq_true rfl, Nat.le_of_ble_eq_true rfl, Nat.le_of_ble_eq_true rfl⟩ rfl (c_Plans_weighCells hT hl) ?_
  rintro v1 w1 ⟨hv1, hS1, hz1⟩
  rw [hv1]
  clear hv1 v1
  have hT0 := hT
  have hWb : ∀ x : Int, Cel (w 3 0) (w 3 1) x → 0 ≤ (fun x => sumI (fWorth (w 3 0) (w 4) (w 5) (w 6) x) (w 3 2)) x ∧ (fun x => sumI (fWorth (w 3 0) (w 4) (w 5) (w 6) x) (w 3 2)) x ≤ 972 := fun x hx => worth_in hl.1 hx (by omega) (by omega) (fun j a b => (hl.2.2 j a b).2.1) (fun j a b => (hl.2.2 j a b).2.2)
  dsimp only [Option.toList, List.cons_append, List.nil_append, List.append_nil]
  refine wp_iconst (a := 1) (pc' := 6) rfl rfl rfl ?_
  refine wp_istore (pc' := 8) rfl rfl (Nat.le_of_ble_eq_true rfl) rfl ?_
  dsimp only [lset, lset2, List.set, List.getElem?_cons_zero, List.getElem?_cons_succ]
  refine l_bc3 (W := (fun x => sumI (fWorth (w 3 0) (w 4) (w 5) (w 6) x) (w 3 2))) hT0 hr0 hl.1 hWb hn (fun w2 x5 x6 x7 hP2 => ?_) n.toNat 0 _ w1 _ _ _ rfl (by omega) ?_
  · obtain ⟨hS2, hW2, hTj2, -⟩ := hP2
    have hT2 := hT0.same hS2 (by decide)
    have e3 : w2 3 = w 3 := hS2 3 (by decide)
    have hr2 := hr0.same hS2 (by decide)
    have hl2 : CL (w2 3 0) (w2 3 1) := by rw [e3]; exact hl.1
    have hWb2 : ∀ x : Int, Cel (w2 3 0) (w2 3 1) x → 0 ≤ (fun x => sumI (fWorth (w 3 0) (w 4) (w 5) (w 6) x) (w 3 2)) x ∧ (fun x => sumI (fWorth (w 3 0) (w 4) (w 5) (w 6) x) (w 3 2)) x ≤ 972 := by rw [e3]; exact hWb
    have hW3 : ∀ x : Int, Cel (w2 3 0) (w2 3 1) x → w2 29 x = (fun x => sumI (fWorth (w 3 0) (w 4) (w 5) (w 6) x) (w 3 2)) x := by rw [e3]; exact hW2
    have hTj3 : ∀ t : Nat, t ≤ n.toNat → Tb w2 (w2 3 0) (w2 3 1) (fun x => sumI (fWorth (w 3 0) (w 4) (w 5) (w 6) x) (w 3 2)) t (5 * (w2 3 0 * w2 3 1)) := by rw [e3]; exact hTj2
    refine wp_aload_n (pc' := 93) rfl rfl rfl (by decide) ?_
    refine wp_getI (ci := 3) (k0 := 3) (pc' := 96) rfl rfl (by decide) (by first | assumption | rfl) ?_
    refine wp_istore (pc' := 98) rfl rfl (Nat.le_of_ble_eq_true rfl) rfl ?_
    dsimp only [lset, lset2, List.set, List.getElem?_cons_zero, List.getElem?_cons_succ]
    refine wp_aload_n (pc' := 99) rfl rfl rfl (by decide) ?_
    refine wp_getI (ci := 3) (k0 := 4) (pc' := 102) rfl rfl (by decide) (by first | assumption | rfl) ?_
    refine wp_istore (pc' := 104) rfl rfl (Nat.le_of_ble_eq_true rfl) rfl ?_
    dsimp only [lset, lset2, List.set, List.getElem?_cons_zero, List.getElem?_cons_succ]
    refine wp_iconst (a := 0) (pc' := 105) rfl rfl rfl ?_
    refine wp_istore (pc' := 107) rfl rfl (Nat.le_of_ble_eq_true rfl) rfl ?_
    dsimp only [lset, lset2, List.set, List.getElem?_cons_zero, List.getElem?_cons_succ]
    refine (l_bc4 (w := w2) (W := (fun x => sumI (fWorth (w 3 0) (w 4) (w 5) (w 6) x) (w 3 2))) (C := bcd (w 3 0) (w 3 1) (fun x => sumI (fWorth (w 3 0) (w 4) (w 5) (w 6) x) (w 3 2)) n.toNat (w 3 3) (w 3 4)) hT2 hr2 hl2 hWb2 hW3 hn hrr (by rw [e3]; exact hx) (by rw [e3]; exact hb0) hTj3 n.toNat 0 _ _ w2 _ (by decide) (by omega) (by rw [e3]; exact hx) (Same.rf _ _) (fun i a b => absurd b (by omega)) ?_).mono (fun v w' hq => ?_)
    · rw [e3, Nat.mod_eq_of_lt (bcd_lt _ _ _)]
    · rw [e3] at hq
      refine ⟨hq.1, fun q hq1 => ?_, hq.2.2⟩
      rw [hq.2.1 q (fun z => hq1 (by simp at z; simp [z])), hS2 q (fun z => hq1 (by simp [BU] at z; simp; omega))]
  · refine ⟨hS1.mono (by decide), hz1, fun j hj z z0 z1 => ?_, fun z z0 z1 => absurd z1 (by omega)⟩
    obtain rfl : j = 0 := by omega
    have hml := hl.1.mul
    rw [show (31 : Int) + ((0 : Nat) : Int) = 31 by decide, hS1 31 (by decide)]
    exact h31 z z0 (by omega)
