/-! the reference's parts; refusals of pairs by a row's number -/
set_option maxRecDepth 20000 in
set_option maxHeartbeats 4000000 in
theorem l_ali {w : Hp} {d : Nat} {most g set i0 : Int} (hl : MdOK w) (hi : 0 ≤ i0 ∧ i0 < w 100 10) {Q : Option PV → Hp → Prop} (hT : Stc w) (K : WP SH (d + 4) 210 69 [some (vR 100), some (vI i0), some (vI set), some (vI most), some (vI g), some (vI (sumI (fTl set (fun x => sG (w 100 11) (w 107 i0) (w 109 (3 + i0)) x) g) (w 100 11 * w 100 12))), some (vI (w 100 11 * w 100 12))] [] w Q) : ∀ (k : Nat) (x s : Int), 0 ≤ x → x + k = w 100 11 * w 100 12 → s = sumI (fTl set (fun x => sG (w 100 11) (w 107 i0) (w 109 (3 + i0)) x) g) x → WP SH (d + 4) 210 18 [some (vR 100), some (vI i0), some (vI set), some (vI most), some (vI g), some (vI (s)), some (vI x)] [] w Q := by
  intro k
  induction k with
  | zero =>
    intro x s h0 hxk hs
    have hml := hl.1.mul
    have hln := hl.2.1
    have hbd := sum01 (n := x) h0 (fTl01 set (fun x => sG (w 100 11) (w 107 i0) (w 109 (3 + i0)) x) g)
    rw [← hs] at hbd
    refine wp_iload (pc' := 20) rfl rfl rfl ?_
    refine wp_aload_n (pc' := 21) rfl rfl rfl (by decide) ?_
    refine wp_getI (ci := 10) (k0 := 11) (pc' := 24) rfl rfl (by decide) (by first | assumption | rfl) ?_
    refine wp_aload_n (pc' := 25) rfl rfl rfl (by decide) ?_
    refine wp_getI (ci := 10) (k0 := 12) (pc' := 28) rfl rfl (by decide) (by first | assumption | rfl) ?_
    refine wp_imul (pc' := 29) rfl rfl (by first | exact w32_id (by omega) (by omega) | rfl) ?_
    refine wp_icmp_ge (pc' := 32) (pt := 69) rfl rfl rfl (fun q_1 => ?_) (fun q_1 => ?_)
    · skip
      obtain rfl : x = w 100 11 * w 100 12 := by omega
      rw [hs]
      exact K
    · skip
      exfalso; omega
  | succ k ih =>
    intro x s h0 hxk hs
    have hml := hl.1.mul
    have hln := hl.2.1
    have hbd := sum01 (n := x) h0 (fTl01 set (fun x => sG (w 100 11) (w 107 i0) (w 109 (3 + i0)) x) g)
    rw [← hs] at hbd
    refine wp_iload (pc' := 20) rfl rfl rfl ?_
    refine wp_aload_n (pc' := 21) rfl rfl rfl (by decide) ?_
    refine wp_getI (ci := 10) (k0 := 11) (pc' := 24) rfl rfl (by decide) (by first | assumption | rfl) ?_
    refine wp_aload_n (pc' := 25) rfl rfl rfl (by decide) ?_
    refine wp_getI (ci := 10) (k0 := 12) (pc' := 28) rfl rfl (by decide) (by first | assumption | rfl) ?_
    refine wp_imul (pc' := 29) rfl rfl (by first | exact w32_id (by omega) (by omega) | rfl) ?_
    refine wp_icmp_ge (pc' := 32) (pt := 69) rfl rfl rfl (fun q_1 => ?_) (fun q_1 => ?_)
    · skip
      exfalso; omega
    · skip
      refine wp_iload (pc' := 34) rfl rfl rfl ?_
      refine wp_iload_n (pc' := 35) rfl rfl rfl ?_
      refine wp_iload (pc' := 37) rfl rfl rfl ?_
      refine wp_call (pc' := 40) rfl rfl rfl rfl rfl ⟨Nat.le_of_ble_eq_true rfl, Nat.le_of_ble_eq_true rfl, Nat.le_of_ble_eq_true rfl, Nat.le_of_ble_eq_true rfl, Nat.le_of_ble_eq_true rfl⟩ rfl (c_Mod_has) ?_
      rintro v1 w9 ⟨hw9, ⟨hv1, hb⟩ | ⟨hv1, hb⟩⟩
      · skip
        rw [hv1, hw9]
        clear hv1 hw9 v1 w9
        dsimp only [Option.toList, List.cons_append, List.nil_append, List.append_nil]
        refine wp_if_eq (pc' := 43) (pt := 59) rfl rfl rfl (fun q_2 => absurd q_2 (by decide)) (fun q_2 => ?_)
        refine wp_aload_n (pc' := 44) rfl rfl rfl (by decide) ?_
        refine wp_iload_n (pc' := 45) rfl rfl rfl ?_
        refine wp_iload (pc' := 47) rfl rfl rfl ?_
        refine wp_call (pc' := 50) rfl rfl rfl rfl rfl ⟨Nat.le_of_ble_eq_true rfl, Nat.le_of_ble_eq_true rfl, Nat.le_of_ble_eq_true rfl, Nat.le_of_ble_eq_true rfl, Nat.le_of_ble_eq_true rfl⟩ rfl (c_Mod_gainOn hl.1 (by omega) hT ⟨h0, by omega⟩ (hl.2.2 i0 hi.1 hi.2).2.1) ?_
        intro v1 w9 hq1
        rw [hq1.1, hq1.2]
        clear hq1 v1 w9
        dsimp only [Option.toList, List.cons_append, List.nil_append, List.append_nil]
        refine wp_iload (pc' := 52) rfl rfl rfl ?_
        refine wp_icmp_ne (pc' := 55) (pt := 59) rfl rfl rfl (fun q_3 => ?_) (fun q_3 => ?_)
        · skip
          refine wp_iconst (a := 0) (pc' := 60) rfl rfl rfl ?_
          refine wp_iadd (pc' := 61) rfl rfl (by first | exact w32_id (by omega) (by omega) | rfl) ?_
          refine wp_istore (pc' := 63) rfl rfl (Nat.le_of_ble_eq_true rfl) rfl ?_
          dsimp only [lset, lset2, List.set, List.getElem?_cons_zero, List.getElem?_cons_succ]
          refine wp_iinc (pc' := 66) rfl rfl rfl (inc_id (by omega) (by omega)) rfl ?_
          dsimp only [lset, lset2, List.set, List.getElem?_cons_zero, List.getElem?_cons_succ]
          refine wp_goto (pc' := 18) rfl rfl ?_
          exact ih (x + 1) _ (by omega) (by omega) (by rw [sumI_s _ h0, ← hs, fTl]; (try dsimp only); (repeat' split) <;> first | omega | (exfalso; omega))
        · skip
          refine wp_iconst (a := 1) (pc' := 56) rfl rfl rfl ?_
          refine wp_goto (pc' := 60) rfl rfl ?_
          refine wp_iadd (pc' := 61) rfl rfl (by first | exact w32_id (by omega) (by omega) | rfl) ?_
          refine wp_istore (pc' := 63) rfl rfl (Nat.le_of_ble_eq_true rfl) rfl ?_
          dsimp only [lset, lset2, List.set, List.getElem?_cons_zero, List.getElem?_cons_succ]
          refine wp_iinc (pc' := 66) rfl rfl rfl (inc_id (by omega) (by omega)) rfl ?_
          dsimp only [lset, lset2, List.set, List.getElem?_cons_zero, List.getElem?_cons_succ]
          refine wp_goto (pc' := 18) rfl rfl ?_
          exact ih (x + 1) _ (by omega) (by omega) (by rw [sumI_s _ h0, ← hs, fTl]; (try dsimp only); (repeat' split) <;> first | omega | (exfalso; omega))
      · skip
        rw [hv1, hw9]
        clear hv1 hw9 v1 w9
        dsimp only [Option.toList, List.cons_append, List.nil_append, List.append_nil]
        refine wp_if_eq (pc' := 43) (pt := 59) rfl rfl rfl (fun q_4 => ?_) (fun q_4 => absurd (by decide) q_4)
        refine wp_iconst (a := 0) (pc' := 60) rfl rfl rfl ?_
        refine wp_iadd (pc' := 61) rfl rfl (by first | exact w32_id (by omega) (by omega) | rfl) ?_
        refine wp_istore (pc' := 63) rfl rfl (Nat.le_of_ble_eq_true rfl) rfl ?_
        dsimp only [lset, lset2, List.set, List.getElem?_cons_zero, List.getElem?_cons_succ]
        refine wp_iinc (pc' := 66) rfl rfl rfl (inc_id (by omega) (by omega)) rfl ?_
        dsimp only [lset, lset2, List.set, List.getElem?_cons_zero, List.getElem?_cons_succ]
        refine wp_goto (pc' := 18) rfl rfl ?_
        exact ih (x + 1) _ (by omega) (by omega) (by rw [sumI_s _ h0, ← hs, fTl]; (try dsimp only); (repeat' split) <;> first | omega | (exfalso; omega))
set_option maxRecDepth 20000 in
set_option maxHeartbeats 4000000 in
theorem l_alo {w : Hp} {d : Nat} {set i0 : Int} (hl : MdOK w) (hi : 0 ≤ i0 ∧ i0 < w 100 10) (hT : Stc w) : ∀ (k m : Nat) (s y : Int) (x5 x6 : Option PV), y = m → m + k = 31 → s = maxN (fun g => sumI (fTl set (fun x => sG (w 100 11) (w 107 i0) (w 109 (3 + i0)) x) g) (w 100 11 * w 100 12)) m → WP SH (d + 4) 210 5 [some (vR 100), some (vI i0), some (vI set), some (vI s), some (vI y), x5, x6] [] w (fun v w' => v = some (vI (sPart set (fun x => sG (w 100 11) (w 107 i0) (w 109 (3 + i0)) x) (w 100 11 * w 100 12))) ∧ w' = w) := by
  intro k
  induction k with
  | zero =>
    intro m s y x5 x6 hy hmk hs
    have hml := hl.1.mul
    have hln := hl.2.1
    refine wp_iload (pc' := 7) rfl rfl rfl ?_
    refine wp_bipush (a := 30) (pc' := 9) rfl rfl rfl ?_
    refine wp_icmp_gt (pc' := 12) (pt := 88) rfl rfl rfl (fun q_1 => ?_) (fun q_1 => ?_)
    · skip
      refine wp_iload_n (pc' := 89) rfl rfl rfl ?_
      refine wp_ret rfl rfl rfl ?_
      obtain rfl : m = 31 := by omega
      exact ⟨by rw [hs]; rfl, rfl⟩
    · skip
      exfalso; omega
  | succ k ih =>
    intro m s y x5 x6 hy hmk hs
    have hml := hl.1.mul
    have hln := hl.2.1
    refine wp_iload (pc' := 7) rfl rfl rfl ?_
    refine wp_bipush (a := 30) (pc' := 9) rfl rfl rfl ?_
    refine wp_icmp_gt (pc' := 12) (pt := 88) rfl rfl rfl (fun q_1 => ?_) (fun q_1 => ?_)
    · skip
      exfalso; omega
    · skip
      refine wp_iconst (a := 0) (pc' := 13) rfl rfl rfl ?_
      refine wp_istore (pc' := 15) rfl rfl (Nat.le_of_ble_eq_true rfl) rfl ?_
      dsimp only [lset, lset2, List.set, List.getElem?_cons_zero, List.getElem?_cons_succ]
      refine wp_iconst (a := 0) (pc' := 16) rfl rfl rfl ?_
      refine wp_istore (pc' := 18) rfl rfl (Nat.le_of_ble_eq_true rfl) rfl ?_
      dsimp only [lset, lset2, List.set, List.getElem?_cons_zero, List.getElem?_cons_succ]
      refine l_ali (set := set) (g := y) hl hi hT ?_ (w 100 11 * w 100 12).toNat 0 _ (by decide) (by omega) rfl
      refine wp_iload (pc' := 71) rfl rfl rfl ?_
      refine wp_iload_n (pc' := 72) rfl rfl rfl ?_
      refine wp_icmp_le (pc' := 75) (pt := 80) rfl rfl rfl (fun q_22 => ?_) (fun q_22 => ?_)
      · skip
        refine wp_iload_n (pc' := 81) rfl rfl rfl ?_
        refine wp_istore_n (pc' := 82) rfl rfl (Nat.le_of_ble_eq_true rfl) rfl ?_
        dsimp only [lset, lset2, List.set, List.getElem?_cons_zero, List.getElem?_cons_succ]
        refine wp_iinc (pc' := 85) rfl rfl rfl (inc_id (by omega) (by omega)) rfl ?_
        dsimp only [lset, lset2, List.set, List.getElem?_cons_zero, List.getElem?_cons_succ]
        refine wp_goto (pc' := 5) rfl rfl ?_
        exact ih (m + 1) _ _ _ _ (by omega) (by omega) (by subst hy; rw [maxN, ← hs]; (try dsimp only); (repeat' split) <;> first | rfl | omega | (exfalso; omega))
      · skip
        refine wp_iload (pc' := 77) rfl rfl rfl ?_
        refine wp_goto (pc' := 81) rfl rfl ?_
        refine wp_istore_n (pc' := 82) rfl rfl (Nat.le_of_ble_eq_true rfl) rfl ?_
        dsimp only [lset, lset2, List.set, List.getElem?_cons_zero, List.getElem?_cons_succ]
        refine wp_iinc (pc' := 85) rfl rfl rfl (inc_id (by omega) (by omega)) rfl ?_
        dsimp only [lset, lset2, List.set, List.getElem?_cons_zero, List.getElem?_cons_succ]
        refine wp_goto (pc' := 5) rfl rfl ?_
        exact ih (m + 1) _ _ _ _ (by omega) (by omega) (by subst hy; rw [maxN, ← hs]; (try dsimp only); (repeat' split) <;> first | rfl | omega | (exfalso; omega))
set_option maxRecDepth 20000 in
set_option maxHeartbeats 4000000 in
theorem c_Mod_alike {w : Hp} {d : Nat} {set i0 : Int} (hl : MdOK w) (hi : 0 ≤ i0 ∧ i0 < w 100 10) (hT : Stc w) : WP SH (d + 4) 210 0 [some (vR 100), some (vI i0), some (vI set), none, none, none, none] [] w (fun v w' => v = some (vI (sPart set (fun x => sG (w 100 11) (w 107 i0) (w 109 (3 + i0)) x) (w 100 11 * w 100 12))) ∧ w' = w) := by
  refine wp_iconst (a := 0) (pc' := 1) rfl rfl rfl ?_
  refine wp_istore_n (pc' := 2) rfl rfl (Nat.le_of_ble_eq_true rfl) rfl ?_
  dsimp only [lset, lset2, List.set, List.getElem?_cons_zero, List.getElem?_cons_succ]
  refine wp_iconst (a := 0) (pc' := 3) rfl rfl rfl ?_
  refine wp_istore (pc' := 5) rfl rfl (Nat.le_of_ble_eq_true rfl) rfl ?_
  dsimp only [lset, lset2, List.set, List.getElem?_cons_zero, List.getElem?_cons_succ]
  exact l_alo hl hi hT 31 0 _ _ _ _ rfl rfl rfl
set_option maxRecDepth 20000 in
set_option maxHeartbeats 4000000 in
theorem l_aki {w : Hp} {d : Nat} {most g set i0 y0 : Int} (hl : MdOK w) (hi : 0 ≤ i0 ∧ i0 < w 100 10) (hyc : Cel (w 100 11) (w 100 12) y0) {Q : Option PV → Hp → Prop} (hT : Stc w) (K : WP SH (d + 3) 214 70 [some (vR 100), some (vI i0), some (vI set), some (vI y0), some (vI most), some (vI g), some (vI (sumI (fTl set (fun x => sG (w 100 11) x (w 109 (3 + i0)) y0) g) (6))), some (vI (6))] [] w Q) : ∀ (k : Nat) (x s : Int), 0 ≤ x → x + k = 6 → s = sumI (fTl set (fun x => sG (w 100 11) x (w 109 (3 + i0)) y0) g) x → WP SH (d + 3) 214 19 [some (vR 100), some (vI i0), some (vI set), some (vI y0), some (vI most), some (vI g), some (vI (s)), some (vI x)] [] w Q := by
  intro k
  induction k with
  | zero =>
    intro x s h0 hxk hs
    have hml := hl.1.mul
    have hln := hl.2.1
    have hbd := sum01 (n := x) h0 (fTl01 set (fun x => sG (w 100 11) x (w 109 (3 + i0)) y0) g)
    rw [← hs] at hbd
    refine wp_iload (pc' := 21) rfl rfl rfl ?_
    refine wp_iconst (a := 5) (pc' := 22) rfl rfl rfl ?_
    refine wp_icmp_gt (pc' := 25) (pt := 70) rfl rfl rfl (fun q_1 => ?_) (fun q_1 => ?_)
    · skip
      obtain rfl : x = 6 := by omega
      rw [hs]
      exact K
    · skip
      exfalso; omega
  | succ k ih =>
    intro x s h0 hxk hs
    have hml := hl.1.mul
    have hln := hl.2.1
    have hbd := sum01 (n := x) h0 (fTl01 set (fun x => sG (w 100 11) x (w 109 (3 + i0)) y0) g)
    rw [← hs] at hbd
    refine wp_iload (pc' := 21) rfl rfl rfl ?_
    refine wp_iconst (a := 5) (pc' := 22) rfl rfl rfl ?_
    refine wp_icmp_gt (pc' := 25) (pt := 70) rfl rfl rfl (fun q_1 => ?_) (fun q_1 => ?_)
    · skip
      exfalso; omega
    · skip
      refine wp_iload (pc' := 27) rfl rfl rfl ?_
      refine wp_iload_n (pc' := 28) rfl rfl rfl ?_
      refine wp_iload (pc' := 30) rfl rfl rfl ?_
      refine wp_call (pc' := 33) rfl rfl rfl rfl rfl ⟨Nat.le_of_ble_eq_true rfl, Nat.le_of_ble_eq_true rfl, Nat.le_of_ble_eq_true rfl, Nat.le_of_ble_eq_true rfl, Nat.le_of_ble_eq_true rfl⟩ rfl (c_Mod_has) ?_
      rintro v1 w9 ⟨hw9, ⟨hv1, hb⟩ | ⟨hv1, hb⟩⟩
      · skip
        rw [hv1, hw9]
        clear hv1 hw9 v1 w9
        dsimp only [Option.toList, List.cons_append, List.nil_append, List.append_nil]
        refine wp_if_eq (pc' := 36) (pt := 60) rfl rfl rfl (fun q_2 => absurd q_2 (by decide)) (fun q_2 => ?_)
        refine wp_aload_n (pc' := 37) rfl rfl rfl (by decide) ?_
        refine wp_iload (pc' := 39) rfl rfl rfl ?_
        refine wp_aload_n (pc' := 40) rfl rfl rfl (by decide) ?_
        refine wp_getR (r' := 109) (ci := 10) (k0 := 15) (pc' := 43) rfl rfl (by decide) (by first | assumption | rfl) (hT.get 107 rfl) ?_
        refine wp_iconst (a := 3) (pc' := 44) rfl rfl rfl ?_
        refine wp_iload_n (pc' := 45) rfl rfl rfl ?_
        refine wp_iadd (pc' := 46) rfl rfl (by first | exact w32_id (by omega) (by omega) | rfl) ?_
        refine wp_iaload (pc' := 47) rfl rfl (by first | assumption | rfl) (by omega) ?_
        refine wp_iload_n (pc' := 48) rfl rfl rfl ?_
        refine wp_call (pc' := 51) rfl rfl rfl rfl rfl ⟨Nat.le_of_ble_eq_true rfl, Nat.le_of_ble_eq_true rfl, Nat.le_of_ble_eq_true rfl, Nat.le_of_ble_eq_true rfl, Nat.le_of_ble_eq_true rfl⟩ rfl (c_Mod_gainBy hl.1 hyc (hl.2.2 i0 hi.1 hi.2).2.1) ?_
        intro v1 w9 hq1
        rw [hq1.1, hq1.2]
        clear hq1 v1 w9
        dsimp only [Option.toList, List.cons_append, List.nil_append, List.append_nil]
        refine wp_iload (pc' := 53) rfl rfl rfl ?_
        refine wp_icmp_ne (pc' := 56) (pt := 60) rfl rfl rfl (fun q_3 => ?_) (fun q_3 => ?_)
        · skip
          refine wp_iconst (a := 0) (pc' := 61) rfl rfl rfl ?_
          refine wp_iadd (pc' := 62) rfl rfl (by first | exact w32_id (by omega) (by omega) | rfl) ?_
          refine wp_istore (pc' := 64) rfl rfl (Nat.le_of_ble_eq_true rfl) rfl ?_
          dsimp only [lset, lset2, List.set, List.getElem?_cons_zero, List.getElem?_cons_succ]
          refine wp_iinc (pc' := 67) rfl rfl rfl (inc_id (by omega) (by omega)) rfl ?_
          dsimp only [lset, lset2, List.set, List.getElem?_cons_zero, List.getElem?_cons_succ]
          refine wp_goto (pc' := 19) rfl rfl ?_
          exact ih (x + 1) _ (by omega) (by omega) (by rw [sumI_s _ h0, ← hs, fTl]; (try dsimp only); (repeat' split) <;> first | omega | (exfalso; omega))
        · skip
          refine wp_iconst (a := 1) (pc' := 57) rfl rfl rfl ?_
          refine wp_goto (pc' := 61) rfl rfl ?_
          refine wp_iadd (pc' := 62) rfl rfl (by first | exact w32_id (by omega) (by omega) | rfl) ?_
          refine wp_istore (pc' := 64) rfl rfl (Nat.le_of_ble_eq_true rfl) rfl ?_
          dsimp only [lset, lset2, List.set, List.getElem?_cons_zero, List.getElem?_cons_succ]
          refine wp_iinc (pc' := 67) rfl rfl rfl (inc_id (by omega) (by omega)) rfl ?_
          dsimp only [lset, lset2, List.set, List.getElem?_cons_zero, List.getElem?_cons_succ]
          refine wp_goto (pc' := 19) rfl rfl ?_
          exact ih (x + 1) _ (by omega) (by omega) (by rw [sumI_s _ h0, ← hs, fTl]; (try dsimp only); (repeat' split) <;> first | omega | (exfalso; omega))
      · skip
        rw [hv1, hw9]
        clear hv1 hw9 v1 w9
        dsimp only [Option.toList, List.cons_append, List.nil_append, List.append_nil]
        refine wp_if_eq (pc' := 36) (pt := 60) rfl rfl rfl (fun q_4 => ?_) (fun q_4 => absurd (by decide) q_4)
        refine wp_iconst (a := 0) (pc' := 61) rfl rfl rfl ?_
        refine wp_iadd (pc' := 62) rfl rfl (by first | exact w32_id (by omega) (by omega) | rfl) ?_
        refine wp_istore (pc' := 64) rfl rfl (Nat.le_of_ble_eq_true rfl) rfl ?_
        dsimp only [lset, lset2, List.set, List.getElem?_cons_zero, List.getElem?_cons_succ]
        refine wp_iinc (pc' := 67) rfl rfl rfl (inc_id (by omega) (by omega)) rfl ?_
        dsimp only [lset, lset2, List.set, List.getElem?_cons_zero, List.getElem?_cons_succ]
        refine wp_goto (pc' := 19) rfl rfl ?_
        exact ih (x + 1) _ (by omega) (by omega) (by rw [sumI_s _ h0, ← hs, fTl]; (try dsimp only); (repeat' split) <;> first | omega | (exfalso; omega))
set_option maxRecDepth 20000 in
set_option maxHeartbeats 4000000 in
theorem l_ako {w : Hp} {d : Nat} {set i0 y0 : Int} (hl : MdOK w) (hi : 0 ≤ i0 ∧ i0 < w 100 10) (hyc : Cel (w 100 11) (w 100 12) y0) (hT : Stc w) : ∀ (k m : Nat) (s y : Int) (x5 x6 : Option PV), y = m → m + k = 31 → s = maxN (fun g => sumI (fTl set (fun x => sG (w 100 11) x (w 109 (3 + i0)) y0) g) (6)) m → WP SH (d + 3) 214 6 [some (vR 100), some (vI i0), some (vI set), some (vI y0), some (vI s), some (vI y), x5, x6] [] w (fun v w' => v = some (vI (sPart set (fun x => sG (w 100 11) x (w 109 (3 + i0)) y0) (6))) ∧ w' = w) := by
  intro k
  induction k with
  | zero =>
    intro m s y x5 x6 hy hmk hs
    have hml := hl.1.mul
    have hln := hl.2.1
    refine wp_iload (pc' := 8) rfl rfl rfl ?_
    refine wp_bipush (a := 30) (pc' := 10) rfl rfl rfl ?_
    refine wp_icmp_gt (pc' := 13) (pt := 92) rfl rfl rfl (fun q_1 => ?_) (fun q_1 => ?_)
    · skip
      refine wp_iload (pc' := 94) rfl rfl rfl ?_
      refine wp_ret rfl rfl rfl ?_
      obtain rfl : m = 31 := by omega
      exact ⟨by rw [hs]; rfl, rfl⟩
    · skip
      exfalso; omega
  | succ k ih =>
    intro m s y x5 x6 hy hmk hs
    have hml := hl.1.mul
    have hln := hl.2.1
    refine wp_iload (pc' := 8) rfl rfl rfl ?_
    refine wp_bipush (a := 30) (pc' := 10) rfl rfl rfl ?_
    refine wp_icmp_gt (pc' := 13) (pt := 92) rfl rfl rfl (fun q_1 => ?_) (fun q_1 => ?_)
    · skip
      exfalso; omega
    · skip
      refine wp_iconst (a := 0) (pc' := 14) rfl rfl rfl ?_
      refine wp_istore (pc' := 16) rfl rfl (Nat.le_of_ble_eq_true rfl) rfl ?_
      dsimp only [lset, lset2, List.set, List.getElem?_cons_zero, List.getElem?_cons_succ]
      refine wp_iconst (a := 0) (pc' := 17) rfl rfl rfl ?_
      refine wp_istore (pc' := 19) rfl rfl (Nat.le_of_ble_eq_true rfl) rfl ?_
      dsimp only [lset, lset2, List.set, List.getElem?_cons_zero, List.getElem?_cons_succ]
      refine l_aki (set := set) (g := y) hl hi hyc hT ?_ (6 : Int).toNat 0 _ (by decide) (by omega) rfl
      refine wp_iload (pc' := 72) rfl rfl rfl ?_
      refine wp_iload (pc' := 74) rfl rfl rfl ?_
      refine wp_icmp_le (pc' := 77) (pt := 82) rfl rfl rfl (fun q_22 => ?_) (fun q_22 => ?_)
      · skip
        refine wp_iload (pc' := 84) rfl rfl rfl ?_
        refine wp_istore (pc' := 86) rfl rfl (Nat.le_of_ble_eq_true rfl) rfl ?_
        dsimp only [lset, lset2, List.set, List.getElem?_cons_zero, List.getElem?_cons_succ]
        refine wp_iinc (pc' := 89) rfl rfl rfl (inc_id (by omega) (by omega)) rfl ?_
        dsimp only [lset, lset2, List.set, List.getElem?_cons_zero, List.getElem?_cons_succ]
        refine wp_goto (pc' := 6) rfl rfl ?_
        exact ih (m + 1) _ _ _ _ (by omega) (by omega) (by subst hy; rw [maxN, ← hs]; (try dsimp only); (repeat' split) <;> first | rfl | omega | (exfalso; omega))
      · skip
        refine wp_iload (pc' := 79) rfl rfl rfl ?_
        refine wp_goto (pc' := 84) rfl rfl ?_
        refine wp_istore (pc' := 86) rfl rfl (Nat.le_of_ble_eq_true rfl) rfl ?_
        dsimp only [lset, lset2, List.set, List.getElem?_cons_zero, List.getElem?_cons_succ]
        refine wp_iinc (pc' := 89) rfl rfl rfl (inc_id (by omega) (by omega)) rfl ?_
        dsimp only [lset, lset2, List.set, List.getElem?_cons_zero, List.getElem?_cons_succ]
        refine wp_goto (pc' := 6) rfl rfl ?_
        exact ih (m + 1) _ _ _ _ (by omega) (by omega) (by subst hy; rw [maxN, ← hs]; (try dsimp only); (repeat' split) <;> first | rfl | omega | (exfalso; omega))
set_option maxRecDepth 20000 in
set_option maxHeartbeats 4000000 in
theorem c_Mod_alikeKinds {w : Hp} {d : Nat} {set i0 y0 : Int} (hl : MdOK w) (hi : 0 ≤ i0 ∧ i0 < w 100 10) (hyc : Cel (w 100 11) (w 100 12) y0) (hT : Stc w) : WP SH (d + 3) 214 0 [some (vR 100), some (vI i0), some (vI set), some (vI y0), none, none, none, none] [] w (fun v w' => v = some (vI (sPart set (fun x => sG (w 100 11) x (w 109 (3 + i0)) y0) 6)) ∧ w' = w) := by
  refine wp_iconst (a := 0) (pc' := 1) rfl rfl rfl ?_
  refine wp_istore (pc' := 3) rfl rfl (Nat.le_of_ble_eq_true rfl) rfl ?_
  dsimp only [lset, lset2, List.set, List.getElem?_cons_zero, List.getElem?_cons_succ]
  refine wp_iconst (a := 0) (pc' := 4) rfl rfl rfl ?_
  refine wp_istore (pc' := 6) rfl rfl (Nat.le_of_ble_eq_true rfl) rfl ?_
  dsimp only [lset, lset2, List.set, List.getElem?_cons_zero, List.getElem?_cons_succ]
  exact l_ako hl hi hyc hT 31 0 _ _ _ _ rfl rfl rfl
set_option maxRecDepth 20000 in
set_option maxHeartbeats 4000000 in
theorem l_Mnext {w : Hp} {d : Nat} {r x2 set : Int} (hl : MdOK w) {Q : Option PV → Hp → Prop} (hT : Stc w) (K : ∀ x : Option PV, WP SH (d + 5) 211 93 [some (vR 100), some (vI r), some (vI x2), some (vI set), some (vI (bestSt (fun i => sPart set (fun x => sG (w 100 11) (w 107 i) (w 109 (3 + i)) x) (w 100 11 * w 100 12)) 1000000 (w 100 10).toNat).1), some (vI (bestSt (fun i => sPart set (fun x => sG (w 100 11) (w 107 i) (w 109 (3 + i)) x) (w 100 11 * w 100 12)) 1000000 (w 100 10).toNat).2), some (vI (w 100 10)), x] [] w Q) : ∀ (k m : Nat) (b l y : Int) (x9 : Option PV), y = m → m + k = (w 100 10).toNat → (b, l) = bestSt (fun i => sPart set (fun x => sG (w 100 11) (w 107 i) (w 109 (3 + i)) x) (w 100 11 * w 100 12)) 1000000 m → WP SH (d + 5) 211 37 [some (vR 100), some (vI r), some (vI x2), some (vI set), some (vI b), some (vI l), some (vI y), x9] [] w Q := by
  intro k
  induction k with
  | zero =>
    intro m b l y x9 hy hmk hbl
    have hln := hl.2.1
    refine wp_iload (pc' := 39) rfl rfl rfl ?_
    refine wp_aload_n (pc' := 40) rfl rfl rfl (by decide) ?_
    refine wp_getI (ci := 10) (k0 := 10) (pc' := 43) rfl rfl (by decide) (by first | assumption | rfl) ?_
    refine wp_icmp_ge (pc' := 46) (pt := 93) rfl rfl rfl (fun q_1 => ?_) (fun q_1 => ?_)
    · skip
      obtain rfl : m = (w 100 10).toNat := by omega
      obtain rfl : y = w 100 10 := by omega
      rw [← hbl] at K
      exact K _
    · skip
      exfalso; omega
  | succ k ih =>
    intro m b l y x9 hy hmk hbl
    have hln := hl.2.1
    refine wp_iload (pc' := 39) rfl rfl rfl ?_
    refine wp_aload_n (pc' := 40) rfl rfl rfl (by decide) ?_
    refine wp_getI (ci := 10) (k0 := 10) (pc' := 43) rfl rfl (by decide) (by first | assumption | rfl) ?_
    refine wp_icmp_ge (pc' := 46) (pt := 93) rfl rfl rfl (fun q_1 => ?_) (fun q_1 => ?_)
    · skip
      exfalso; omega
    · skip
      refine wp_aload_n (pc' := 47) rfl rfl rfl (by decide) ?_
      refine wp_iload (pc' := 49) rfl rfl rfl ?_
      refine wp_iload_n (pc' := 50) rfl rfl rfl ?_
      refine wp_call (pc' := 53) rfl rfl rfl rfl rfl ⟨Nat.le_of_ble_eq_true rfl, Nat.le_of_ble_eq_true rfl, Nat.le_of_ble_eq_true rfl, Nat.le_of_ble_eq_true rfl, Nat.le_of_ble_eq_true rfl⟩ rfl (c_Mod_alike hl (by omega) hT) ?_
      intro v1 w9 hq1
      rw [hq1.1, hq1.2]
      clear hq1 v1 w9
      dsimp only [Option.toList, List.cons_append, List.nil_append, List.append_nil]
      refine wp_istore (pc' := 55) rfl rfl (Nat.le_of_ble_eq_true rfl) rfl ?_
      dsimp only [lset, lset2, List.set, List.getElem?_cons_zero, List.getElem?_cons_succ]
      refine wp_iload (pc' := 57) rfl rfl rfl ?_
      refine wp_iload (pc' := 59) rfl rfl rfl ?_
      refine wp_icmp_ge (pc' := 62) (pt := 67) rfl rfl rfl (fun q_2 => ?_) (fun q_2 => ?_)
      · skip
        refine wp_iload (pc' := 69) rfl rfl rfl ?_
        refine wp_istore (pc' := 71) rfl rfl (Nat.le_of_ble_eq_true rfl) rfl ?_
        dsimp only [lset, lset2, List.set, List.getElem?_cons_zero, List.getElem?_cons_succ]
        refine wp_iload (pc' := 73) rfl rfl rfl ?_
        refine wp_iload (pc' := 75) rfl rfl rfl ?_
        refine wp_icmp_ge (pc' := 78) (pt := 83) rfl rfl rfl (fun q_3 => ?_) (fun q_3 => ?_)
        · skip
          refine wp_iload (pc' := 85) rfl rfl rfl ?_
          refine wp_istore (pc' := 87) rfl rfl (Nat.le_of_ble_eq_true rfl) rfl ?_
          dsimp only [lset, lset2, List.set, List.getElem?_cons_zero, List.getElem?_cons_succ]
          refine wp_iinc (pc' := 90) rfl rfl rfl (inc_id (by omega) (by omega)) rfl ?_
          dsimp only [lset, lset2, List.set, List.getElem?_cons_zero, List.getElem?_cons_succ]
          refine wp_goto (pc' := 37) rfl rfl ?_
          refine ih (m + 1) _ _ _ _ (by omega) (by omega) ?_
          rw [bestSt, ← hbl, ← hy]
          dsimp only
          first
          | (exfalso; omega)
          | (rw [if_pos (by omega)])
          | (rw [if_neg (by omega)])
        · skip
          refine wp_iload (pc' := 80) rfl rfl rfl ?_
          refine wp_goto (pc' := 85) rfl rfl ?_
          refine wp_istore (pc' := 87) rfl rfl (Nat.le_of_ble_eq_true rfl) rfl ?_
          dsimp only [lset, lset2, List.set, List.getElem?_cons_zero, List.getElem?_cons_succ]
          refine wp_iinc (pc' := 90) rfl rfl rfl (inc_id (by omega) (by omega)) rfl ?_
          dsimp only [lset, lset2, List.set, List.getElem?_cons_zero, List.getElem?_cons_succ]
          refine wp_goto (pc' := 37) rfl rfl ?_
          refine ih (m + 1) _ _ _ _ (by omega) (by omega) ?_
          rw [bestSt, ← hbl, ← hy]
          dsimp only
          first
          | (exfalso; omega)
          | (rw [if_pos (by omega)])
          | (rw [if_neg (by omega)])
      · skip
        refine wp_iload (pc' := 64) rfl rfl rfl ?_
        refine wp_goto (pc' := 69) rfl rfl ?_
        refine wp_istore (pc' := 71) rfl rfl (Nat.le_of_ble_eq_true rfl) rfl ?_
        dsimp only [lset, lset2, List.set, List.getElem?_cons_zero, List.getElem?_cons_succ]
        refine wp_iload (pc' := 73) rfl rfl rfl ?_
        refine wp_iload (pc' := 75) rfl rfl rfl ?_
        refine wp_icmp_ge (pc' := 78) (pt := 83) rfl rfl rfl (fun q_4 => ?_) (fun q_4 => ?_)
        · skip
          refine wp_iload (pc' := 85) rfl rfl rfl ?_
          refine wp_istore (pc' := 87) rfl rfl (Nat.le_of_ble_eq_true rfl) rfl ?_
          dsimp only [lset, lset2, List.set, List.getElem?_cons_zero, List.getElem?_cons_succ]
          refine wp_iinc (pc' := 90) rfl rfl rfl (inc_id (by omega) (by omega)) rfl ?_
          dsimp only [lset, lset2, List.set, List.getElem?_cons_zero, List.getElem?_cons_succ]
          refine wp_goto (pc' := 37) rfl rfl ?_
          refine ih (m + 1) _ _ _ _ (by omega) (by omega) ?_
          rw [bestSt, ← hbl, ← hy]
          dsimp only
          first
          | (exfalso; omega)
          | (rw [if_pos (by omega)])
          | (rw [if_neg (by omega)])
        · skip
          refine wp_iload (pc' := 80) rfl rfl rfl ?_
          refine wp_goto (pc' := 85) rfl rfl ?_
          refine wp_istore (pc' := 87) rfl rfl (Nat.le_of_ble_eq_true rfl) rfl ?_
          dsimp only [lset, lset2, List.set, List.getElem?_cons_zero, List.getElem?_cons_succ]
          refine wp_iinc (pc' := 90) rfl rfl rfl (inc_id (by omega) (by omega)) rfl ?_
          dsimp only [lset, lset2, List.set, List.getElem?_cons_zero, List.getElem?_cons_succ]
          refine wp_goto (pc' := 37) rfl rfl ?_
          refine ih (m + 1) _ _ _ _ (by omega) (by omega) ?_
          rw [bestSt, ← hbl, ← hy]
          dsimp only
          first
          | (exfalso; omega)
          | (rw [if_pos (by omega)])
          | (rw [if_neg (by omega)])
set_option maxRecDepth 20000 in
set_option maxHeartbeats 4000000 in
theorem l_Mtest {w : Hp} {d : Nat} {i0 r x3 set : Int} (hl : MdOK w) (hi : 0 ≤ i0 ∧ i0 < w 100 10) {Q : Option PV → Hp → Prop} (hT : Stc w) (K : ∀ x : Option PV, WP SH (d + 4) 215 107 [some (vR 100), some (vI i0), some (vI r), some (vI x3), some (vI set), some (vI (bestSt (fun y => sPart set (fun x => sG (w 100 11) x (w 109 (3 + i0)) y) 6) 1000000 (w 100 11 * w 100 12).toNat).1), some (vI (bestSt (fun y => sPart set (fun x => sG (w 100 11) x (w 109 (3 + i0)) y) 6) 1000000 (w 100 11 * w 100 12).toNat).2), some (vI (w 100 11 * w 100 12)), x] [] w Q) : ∀ (k m : Nat) (b l y : Int) (x9 : Option PV), y = m → m + k = (w 100 11 * w 100 12).toNat → (b, l) = bestSt (fun y => sPart set (fun x => sG (w 100 11) x (w 109 (3 + i0)) y) 6) 1000000 m → WP SH (d + 4) 215 44 [some (vR 100), some (vI i0), some (vI r), some (vI x3), some (vI set), some (vI b), some (vI l), some (vI y), x9] [] w Q := by
  intro k
  induction k with
  | zero =>
    intro m b l y x9 hy hmk hbl
    have hml := hl.1.mul
    refine wp_iload (pc' := 46) rfl rfl rfl ?_
    refine wp_aload_n (pc' := 47) rfl rfl rfl (by decide) ?_
    refine wp_getI (ci := 10) (k0 := 11) (pc' := 50) rfl rfl (by decide) (by first | assumption | rfl) ?_
    refine wp_aload_n (pc' := 51) rfl rfl rfl (by decide) ?_
    refine wp_getI (ci := 10) (k0 := 12) (pc' := 54) rfl rfl (by decide) (by first | assumption | rfl) ?_
    refine wp_imul (pc' := 55) rfl rfl (by first | exact w32_id (by omega) (by omega) | rfl) ?_
    refine wp_icmp_ge (pc' := 58) (pt := 107) rfl rfl rfl (fun q_1 => ?_) (fun q_1 => ?_)
    · skip
      obtain rfl : m = (w 100 11 * w 100 12).toNat := by omega
      obtain rfl : y = w 100 11 * w 100 12 := by omega
      rw [← hbl] at K
      exact K _
    · skip
      exfalso; omega
  | succ k ih =>
    intro m b l y x9 hy hmk hbl
    have hml := hl.1.mul
    refine wp_iload (pc' := 46) rfl rfl rfl ?_
    refine wp_aload_n (pc' := 47) rfl rfl rfl (by decide) ?_
    refine wp_getI (ci := 10) (k0 := 11) (pc' := 50) rfl rfl (by decide) (by first | assumption | rfl) ?_
    refine wp_aload_n (pc' := 51) rfl rfl rfl (by decide) ?_
    refine wp_getI (ci := 10) (k0 := 12) (pc' := 54) rfl rfl (by decide) (by first | assumption | rfl) ?_
    refine wp_imul (pc' := 55) rfl rfl (by first | exact w32_id (by omega) (by omega) | rfl) ?_
    refine wp_icmp_ge (pc' := 58) (pt := 107) rfl rfl rfl (fun q_1 => ?_) (fun q_1 => ?_)
    · skip
      exfalso; omega
    · skip
      refine wp_aload_n (pc' := 59) rfl rfl rfl (by decide) ?_
      refine wp_iload_n (pc' := 60) rfl rfl rfl ?_
      refine wp_iload (pc' := 62) rfl rfl rfl ?_
      refine wp_iload (pc' := 64) rfl rfl rfl ?_
      refine wp_call (pc' := 67) rfl rfl rfl rfl rfl ⟨Nat.le_of_ble_eq_true rfl, Nat.le_of_ble_eq_true rfl, Nat.le_of_ble_eq_true rfl, Nat.le_of_ble_eq_true rfl, Nat.le_of_ble_eq_true rfl⟩ rfl (c_Mod_alikeKinds hl hi ⟨by omega, by omega⟩ hT) ?_
      intro v1 w9 hq1
      rw [hq1.1, hq1.2]
      clear hq1 v1 w9
      dsimp only [Option.toList, List.cons_append, List.nil_append, List.append_nil]
      refine wp_istore (pc' := 69) rfl rfl (Nat.le_of_ble_eq_true rfl) rfl ?_
      dsimp only [lset, lset2, List.set, List.getElem?_cons_zero, List.getElem?_cons_succ]
      refine wp_iload (pc' := 71) rfl rfl rfl ?_
      refine wp_iload (pc' := 73) rfl rfl rfl ?_
      refine wp_icmp_ge (pc' := 76) (pt := 81) rfl rfl rfl (fun q_2 => ?_) (fun q_2 => ?_)
      · skip
        refine wp_iload (pc' := 83) rfl rfl rfl ?_
        refine wp_istore (pc' := 85) rfl rfl (Nat.le_of_ble_eq_true rfl) rfl ?_
        dsimp only [lset, lset2, List.set, List.getElem?_cons_zero, List.getElem?_cons_succ]
        refine wp_iload (pc' := 87) rfl rfl rfl ?_
        refine wp_iload (pc' := 89) rfl rfl rfl ?_
        refine wp_icmp_ge (pc' := 92) (pt := 97) rfl rfl rfl (fun q_3 => ?_) (fun q_3 => ?_)
        · skip
          refine wp_iload (pc' := 99) rfl rfl rfl ?_
          refine wp_istore (pc' := 101) rfl rfl (Nat.le_of_ble_eq_true rfl) rfl ?_
          dsimp only [lset, lset2, List.set, List.getElem?_cons_zero, List.getElem?_cons_succ]
          refine wp_iinc (pc' := 104) rfl rfl rfl (inc_id (by omega) (by omega)) rfl ?_
          dsimp only [lset, lset2, List.set, List.getElem?_cons_zero, List.getElem?_cons_succ]
          refine wp_goto (pc' := 44) rfl rfl ?_
          refine ih (m + 1) _ _ _ _ (by omega) (by omega) ?_
          rw [bestSt, ← hbl, ← hy]
          dsimp only
          first
          | (exfalso; omega)
          | (rw [if_pos (by omega)])
          | (rw [if_neg (by omega)])
        · skip
          refine wp_iload (pc' := 94) rfl rfl rfl ?_
          refine wp_goto (pc' := 99) rfl rfl ?_
          refine wp_istore (pc' := 101) rfl rfl (Nat.le_of_ble_eq_true rfl) rfl ?_
          dsimp only [lset, lset2, List.set, List.getElem?_cons_zero, List.getElem?_cons_succ]
          refine wp_iinc (pc' := 104) rfl rfl rfl (inc_id (by omega) (by omega)) rfl ?_
          dsimp only [lset, lset2, List.set, List.getElem?_cons_zero, List.getElem?_cons_succ]
          refine wp_goto (pc' := 44) rfl rfl ?_
          refine ih (m + 1) _ _ _ _ (by omega) (by omega) ?_
          rw [bestSt, ← hbl, ← hy]
          dsimp only
          first
          | (exfalso; omega)
          | (rw [if_pos (by omega)])
          | (rw [if_neg (by omega)])
      · skip
        refine wp_iload (pc' := 78) rfl rfl rfl ?_
        refine wp_goto (pc' := 83) rfl rfl ?_
        refine wp_istore (pc' := 85) rfl rfl (Nat.le_of_ble_eq_true rfl) rfl ?_
        dsimp only [lset, lset2, List.set, List.getElem?_cons_zero, List.getElem?_cons_succ]
        refine wp_iload (pc' := 87) rfl rfl rfl ?_
        refine wp_iload (pc' := 89) rfl rfl rfl ?_
        refine wp_icmp_ge (pc' := 92) (pt := 97) rfl rfl rfl (fun q_4 => ?_) (fun q_4 => ?_)
        · skip
          refine wp_iload (pc' := 99) rfl rfl rfl ?_
          refine wp_istore (pc' := 101) rfl rfl (Nat.le_of_ble_eq_true rfl) rfl ?_
          dsimp only [lset, lset2, List.set, List.getElem?_cons_zero, List.getElem?_cons_succ]
          refine wp_iinc (pc' := 104) rfl rfl rfl (inc_id (by omega) (by omega)) rfl ?_
          dsimp only [lset, lset2, List.set, List.getElem?_cons_zero, List.getElem?_cons_succ]
          refine wp_goto (pc' := 44) rfl rfl ?_
          refine ih (m + 1) _ _ _ _ (by omega) (by omega) ?_
          rw [bestSt, ← hbl, ← hy]
          dsimp only
          first
          | (exfalso; omega)
          | (rw [if_pos (by omega)])
          | (rw [if_neg (by omega)])
        · skip
          refine wp_iload (pc' := 94) rfl rfl rfl ?_
          refine wp_goto (pc' := 99) rfl rfl ?_
          refine wp_istore (pc' := 101) rfl rfl (Nat.le_of_ble_eq_true rfl) rfl ?_
          dsimp only [lset, lset2, List.set, List.getElem?_cons_zero, List.getElem?_cons_succ]
          refine wp_iinc (pc' := 104) rfl rfl rfl (inc_id (by omega) (by omega)) rfl ?_
          dsimp only [lset, lset2, List.set, List.getElem?_cons_zero, List.getElem?_cons_succ]
          refine wp_goto (pc' := 44) rfl rfl ?_
          refine ih (m + 1) _ _ _ _ (by omega) (by omega) ?_
          rw [bestSt, ← hbl, ← hy]
          dsimp only
          first
          | (exfalso; omega)
          | (rw [if_pos (by omega)])
          | (rw [if_neg (by omega)])
set_option maxRecDepth 20000 in
set_option maxHeartbeats 4000000 in
theorem c_VH_cellPairs {w : Hp} {d : Nat} {r : Int} (hT : Stc w) (hz : 0 ≤ r → r < 6 → -1 ≤ w (53 + 2 * r) 1 ∧ w (53 + 2 * r) 1 ≤ 40) : WP SH (d + 2) 128 0 [some (vR 0), some (vI r)] [] w (fun v w' => (v = some (vI (-1)) ∧ ¬ (0 ≤ r ∧ r < 6) ∧ w' = w) ∨ (v = some (vI (-4)) ∧ (0 ≤ r ∧ r < 6) ∧ w 3 0 = 0 ∧ w' = w) ∨ (v = some (vI (-3)) ∧ (0 ≤ r ∧ r < 6) ∧ w 3 0 ≠ 0 ∧ w (53 + 2 * r) 1 = -1 ∧ w' = refW w 1) ∨ (v = some (vI (-3)) ∧ (0 ≤ r ∧ r < 6) ∧ w 3 0 ≠ 0 ∧ w (53 + 2 * r) 1 ≠ -1 ∧ w (53 + 2 * r) 1 % 2 ≠ 0 ∧ w' = refW w 5) ∨ (v = some (vI (-3)) ∧ (0 ≤ r ∧ r < 6) ∧ w 3 0 ≠ 0 ∧ w (53 + 2 * r) 1 ≠ -1 ∧ w (53 + 2 * r) 1 % 2 = 0 ∧ wellN (w (54 + 2 * r)) (w 3 2) (w (53 + 2 * r) 1 / 2).toNat = 0 ∧ w' = refW w 3) ∨ (v = some (vI 0) ∧ (0 ≤ r ∧ r < 6) ∧ w 3 0 ≠ 0 ∧ w (53 + 2 * r) 1 ≠ -1 ∧ w (53 + 2 * r) 1 % 2 = 0 ∧ wellN (w (54 + 2 * r)) (w 3 2) (w (53 + 2 * r) 1 / 2).toNat = 1 ∧ w' = w)) := by
  refine wp_iload_n (pc' := 1) rfl rfl rfl ?_
  refine wp_call (pc' := 4) rfl rfl rfl rfl rfl ⟨Nat.le_of_ble_eq_true rfl, Nat.le_of_ble_eq_true rfl, Nat.le_of_ble_eq_true rfl, Nat.le_of_ble_eq_true rfl, Nat.le_of_ble_eq_true rfl⟩ rfl (c_VH_isRow) ?_
  rintro v1 w9 ⟨hw9, ⟨hv1, hbr⟩ | ⟨hv1, hbr⟩⟩
  · skip
    rw [hv1, hw9]
    clear hv1 hw9 v1 w9
    have hstr := strip_row hT hbr.1 hbr.2
    have hzz := hz hbr.1 hbr.2
    dsimp only [Option.toList, List.cons_append, List.nil_append, List.append_nil]
    refine wp_if_ne (pc' := 7) (pt := 9) rfl rfl rfl (fun q_1 => ?_) (fun q_1 => absurd (by decide) q_1)
    refine wp_aload_n (pc' := 10) rfl rfl rfl (by decide) ?_
    refine wp_getR (r' := 3) (ci := 9) (k0 := 2) (pc' := 13) rfl rfl (by decide) (by first | assumption | rfl) (hT.get 2 rfl) ?_
    refine wp_call (pc' := 16) rfl rfl rfl rfl rfl ⟨Nat.le_of_ble_eq_true rfl, Nat.le_of_ble_eq_true rfl, Nat.le_of_ble_eq_true rfl, Nat.le_of_ble_eq_true rfl, Nat.le_of_ble_eq_true rfl⟩ rfl (c_Land_isEmpty_3) ?_
    rintro v1 w9 ⟨hw9, ⟨hv1, he⟩ | ⟨hv1, he⟩⟩
    · skip
      rw [hv1, hw9]
      clear hv1 hw9 v1 w9
      dsimp only [Option.toList, List.cons_append, List.nil_append, List.append_nil]
      refine wp_if_eq (pc' := 19) (pt := 24) rfl rfl rfl (fun q_2 => absurd q_2 (by decide)) (fun q_2 => ?_)
      refine wp_bipush (a := -4) (pc' := 21) rfl rfl rfl ?_
      refine wp_goto (pc' := 41) rfl rfl ?_
      refine wp_ret rfl rfl rfl ?_
      first
      | exact Or.inl ⟨rfl, by omega, rfl⟩
      | exact Or.inr (Or.inl ⟨rfl, by omega, by omega, rfl⟩)
    · skip
      rw [hv1, hw9]
      clear hv1 hw9 v1 w9
      dsimp only [Option.toList, List.cons_append, List.nil_append, List.append_nil]
      refine wp_if_eq (pc' := 19) (pt := 24) rfl rfl rfl (fun q_3 => ?_) (fun q_3 => absurd (by decide) q_3)
      refine wp_aload_n (pc' := 25) rfl rfl rfl (by decide) ?_
      refine wp_aload_n (pc' := 26) rfl rfl rfl (by decide) ?_
      refine wp_getR (r' := 1) (ci := 9) (k0 := 0) (pc' := 29) rfl rfl (by decide) (by first | assumption | rfl) (hT.get 0 rfl) ?_
      refine wp_iload_n (pc' := 30) rfl rfl rfl ?_
      refine wp_aaload (r' := (53 + 2 * r)) (pc' := 31) rfl rfl (by first | assumption | rfl) rfl (by omega) (hstr.2) ?_
      refine wp_aload_n (pc' := 32) rfl rfl rfl (by decide) ?_
      refine wp_getR (r' := 3) (ci := 9) (k0 := 2) (pc' := 35) rfl rfl (by decide) (by first | assumption | rfl) (hT.get 2 rfl) ?_
      refine wp_getI (ci := 3) (k0 := 2) (pc' := 38) rfl rfl (by decide) (by first | assumption | rfl) ?_
      refine wp_call (pc' := 41) rfl rfl rfl rfl rfl ⟨Nat.le_of_ble_eq_true rfl, Nat.le_of_ble_eq_true rfl, Nat.le_of_ble_eq_true rfl, Nat.le_of_ble_eq_true rfl, Nat.le_of_ble_eq_true rfl⟩ rfl (c_VH_pairsRefusal hT hstr.1 hzz) ?_
      rintro v1 w1 (⟨hv1, hp1, hw1⟩ | ⟨hv1, hp1, hp2, hw1⟩ | ⟨hv1, hp1, hp2, hp3, hw1⟩ | ⟨hv1, hp1, hp2, hp3, hw1⟩)
      · skip
        rw [hv1]
        clear hv1 v1
        dsimp only [Option.toList, List.cons_append, List.nil_append, List.append_nil]
        refine wp_ret rfl rfl rfl ?_
        exact Or.inr (Or.inr (Or.inl ⟨rfl, hbr, he, hp1, hw1⟩))
      · skip
        rw [hv1]
        clear hv1 v1
        dsimp only [Option.toList, List.cons_append, List.nil_append, List.append_nil]
        refine wp_ret rfl rfl rfl ?_
        exact Or.inr (Or.inr (Or.inr (Or.inl ⟨rfl, hbr, he, hp1, hp2, hw1⟩)))
      · skip
        rw [hv1]
        clear hv1 v1
        dsimp only [Option.toList, List.cons_append, List.nil_append, List.append_nil]
        refine wp_ret rfl rfl rfl ?_
        exact Or.inr (Or.inr (Or.inr (Or.inr (Or.inl ⟨rfl, hbr, he, hp1, hp2, hp3, hw1⟩))))
      · skip
        rw [hv1]
        clear hv1 v1
        dsimp only [Option.toList, List.cons_append, List.nil_append, List.append_nil]
        refine wp_ret rfl rfl rfl ?_
        exact Or.inr (Or.inr (Or.inr (Or.inr (Or.inr (⟨rfl, hbr, he, hp1, hp2, hp3, hw1⟩)))))
  · skip
    rw [hv1, hw9]
    clear hv1 hw9 v1 w9
    dsimp only [Option.toList, List.cons_append, List.nil_append, List.append_nil]
    refine wp_if_ne (pc' := 7) (pt := 9) rfl rfl rfl (fun q_4 => absurd q_4 (by decide)) (fun q_4 => ?_)
    refine wp_iconst (a := -1) (pc' := 8) rfl rfl rfl ?_
    refine wp_ret rfl rfl rfl ?_
    first
    | exact Or.inl ⟨rfl, by omega, rfl⟩
    | exact Or.inr (Or.inl ⟨rfl, by omega, by omega, rfl⟩)
set_option maxRecDepth 20000 in
set_option maxHeartbeats 4000000 in
theorem c_VH_kindPairs {w : Hp} {d : Nat} {i r : Int} (hT : Stc w) (hn25 : 0 ≤ w 3 0 * w 3 1 ∧ w 3 0 * w 3 1 ≤ 25) (hz : 0 ≤ r → r < 6 → -1 ≤ w (53 + 2 * r) 1 ∧ w (53 + 2 * r) 1 ≤ 40) : WP SH (d + 2) 129 0 [some (vR 0), some (vI i), some (vI r)] [] w (fun v w' => (v = some (vI (-1)) ∧ ¬ ((0 ≤ i ∧ i < w 3 2) ∧ (0 ≤ r ∧ r < 6)) ∧ w' = w) ∨ (v = some (vI (-3)) ∧ ((0 ≤ i ∧ i < w 3 2) ∧ (0 ≤ r ∧ r < 6)) ∧ w (53 + 2 * r) 1 = -1 ∧ w' = refW w 1) ∨ (v = some (vI (-3)) ∧ ((0 ≤ i ∧ i < w 3 2) ∧ (0 ≤ r ∧ r < 6)) ∧ w (53 + 2 * r) 1 ≠ -1 ∧ w (53 + 2 * r) 1 % 2 ≠ 0 ∧ w' = refW w 5) ∨ (v = some (vI (-3)) ∧ ((0 ≤ i ∧ i < w 3 2) ∧ (0 ≤ r ∧ r < 6)) ∧ w (53 + 2 * r) 1 ≠ -1 ∧ w (53 + 2 * r) 1 % 2 = 0 ∧ wellN (w (54 + 2 * r)) (w 3 0 * w 3 1) (w (53 + 2 * r) 1 / 2).toNat = 0 ∧ w' = refW w 3) ∨ (v = some (vI 0) ∧ ((0 ≤ i ∧ i < w 3 2) ∧ (0 ≤ r ∧ r < 6)) ∧ w (53 + 2 * r) 1 ≠ -1 ∧ w (53 + 2 * r) 1 % 2 = 0 ∧ wellN (w (54 + 2 * r)) (w 3 0 * w 3 1) (w (53 + 2 * r) 1 / 2).toNat = 1 ∧ w' = w)) := by
  refine wp_aload_n (pc' := 1) rfl rfl rfl (by decide) ?_
  refine wp_getR (r' := 3) (ci := 9) (k0 := 2) (pc' := 4) rfl rfl (by decide) (by first | assumption | rfl) (hT.get 2 rfl) ?_
  refine wp_iload_n (pc' := 5) rfl rfl rfl ?_
  refine wp_call (pc' := 8) rfl rfl rfl rfl rfl ⟨Nat.le_of_ble_eq_true rfl, Nat.le_of_ble_eq_true rfl, Nat.le_of_ble_eq_true rfl, Nat.le_of_ble_eq_true rfl, Nat.le_of_ble_eq_true rfl⟩ rfl (c_Land_hasOne) ?_
  rintro v1 w9 ⟨hw9, ⟨hv1, ho⟩ | ⟨hv1, ho⟩⟩
  · skip
    rw [hv1, hw9]
    clear hv1 hw9 v1 w9
    dsimp only [Option.toList, List.cons_append, List.nil_append, List.append_nil]
    refine wp_if_eq (pc' := 11) (pt := 38) rfl rfl rfl (fun q_1 => absurd q_1 (by decide)) (fun q_1 => ?_)
    refine wp_iload_n (pc' := 12) rfl rfl rfl ?_
    refine wp_call (pc' := 15) rfl rfl rfl rfl rfl ⟨Nat.le_of_ble_eq_true rfl, Nat.le_of_ble_eq_true rfl, Nat.le_of_ble_eq_true rfl, Nat.le_of_ble_eq_true rfl, Nat.le_of_ble_eq_true rfl⟩ rfl (c_VH_isRow) ?_
    rintro v1 w9 ⟨hw9, ⟨hv1, hbr⟩ | ⟨hv1, hbr⟩⟩
    · skip
      rw [hv1, hw9]
      clear hv1 hw9 v1 w9
      have hstr := strip_row hT hbr.1 hbr.2
      have hzz := hz hbr.1 hbr.2
      dsimp only [Option.toList, List.cons_append, List.nil_append, List.append_nil]
      refine wp_if_eq (pc' := 18) (pt := 38) rfl rfl rfl (fun q_2 => absurd q_2 (by decide)) (fun q_2 => ?_)
      refine wp_aload_n (pc' := 19) rfl rfl rfl (by decide) ?_
      refine wp_aload_n (pc' := 20) rfl rfl rfl (by decide) ?_
      refine wp_getR (r' := 1) (ci := 9) (k0 := 0) (pc' := 23) rfl rfl (by decide) (by first | assumption | rfl) (hT.get 0 rfl) ?_
      refine wp_iload_n (pc' := 24) rfl rfl rfl ?_
      refine wp_aaload (r' := (53 + 2 * r)) (pc' := 25) rfl rfl (by first | assumption | rfl) rfl (by omega) (hstr.2) ?_
      refine wp_aload_n (pc' := 26) rfl rfl rfl (by decide) ?_
      refine wp_getR (r' := 3) (ci := 9) (k0 := 2) (pc' := 29) rfl rfl (by decide) (by first | assumption | rfl) (hT.get 2 rfl) ?_
      refine wp_call (pc' := 32) rfl rfl rfl rfl rfl ⟨Nat.le_of_ble_eq_true rfl, Nat.le_of_ble_eq_true rfl, Nat.le_of_ble_eq_true rfl, Nat.le_of_ble_eq_true rfl, Nat.le_of_ble_eq_true rfl⟩ rfl (c_Land_cells hn25) ?_
      intro v1 w9 hq1
      rw [hq1.1, hq1.2]
      clear hq1 v1 w9
      dsimp only [Option.toList, List.cons_append, List.nil_append, List.append_nil]
      refine wp_call (pc' := 35) rfl rfl rfl rfl rfl ⟨Nat.le_of_ble_eq_true rfl, Nat.le_of_ble_eq_true rfl, Nat.le_of_ble_eq_true rfl, Nat.le_of_ble_eq_true rfl, Nat.le_of_ble_eq_true rfl⟩ rfl (c_VH_pairsRefusal hT hstr.1 hzz) ?_
      rintro v1 w1 (⟨hv1, hp1, hw1⟩ | ⟨hv1, hp1, hp2, hw1⟩ | ⟨hv1, hp1, hp2, hp3, hw1⟩ | ⟨hv1, hp1, hp2, hp3, hw1⟩)
      · skip
        rw [hv1]
        clear hv1 v1
        dsimp only [Option.toList, List.cons_append, List.nil_append, List.append_nil]
        refine wp_goto (pc' := 39) rfl rfl ?_
        refine wp_ret rfl rfl rfl ?_
        exact Or.inr (Or.inl ⟨rfl, ⟨ho, hbr⟩, hp1, hw1⟩)
      · skip
        rw [hv1]
        clear hv1 v1
        dsimp only [Option.toList, List.cons_append, List.nil_append, List.append_nil]
        refine wp_goto (pc' := 39) rfl rfl ?_
        refine wp_ret rfl rfl rfl ?_
        exact Or.inr (Or.inr (Or.inl ⟨rfl, ⟨ho, hbr⟩, hp1, hp2, hw1⟩))
      · skip
        rw [hv1]
        clear hv1 v1
        dsimp only [Option.toList, List.cons_append, List.nil_append, List.append_nil]
        refine wp_goto (pc' := 39) rfl rfl ?_
        refine wp_ret rfl rfl rfl ?_
        exact Or.inr (Or.inr (Or.inr (Or.inl ⟨rfl, ⟨ho, hbr⟩, hp1, hp2, hp3, hw1⟩)))
      · skip
        rw [hv1]
        clear hv1 v1
        dsimp only [Option.toList, List.cons_append, List.nil_append, List.append_nil]
        refine wp_goto (pc' := 39) rfl rfl ?_
        refine wp_ret rfl rfl rfl ?_
        exact Or.inr (Or.inr (Or.inr (Or.inr (⟨rfl, ⟨ho, hbr⟩, hp1, hp2, hp3, hw1⟩))))
    · skip
      rw [hv1, hw9]
      clear hv1 hw9 v1 w9
      dsimp only [Option.toList, List.cons_append, List.nil_append, List.append_nil]
      refine wp_if_eq (pc' := 18) (pt := 38) rfl rfl rfl (fun q_3 => ?_) (fun q_3 => absurd (by decide) q_3)
      refine wp_iconst (a := -1) (pc' := 39) rfl rfl rfl ?_
      refine wp_ret rfl rfl rfl ?_
      exact Or.inl ⟨rfl, by omega, rfl⟩
  · skip
    rw [hv1, hw9]
    clear hv1 hw9 v1 w9
    dsimp only [Option.toList, List.cons_append, List.nil_append, List.append_nil]
    refine wp_if_eq (pc' := 11) (pt := 38) rfl rfl rfl (fun q_4 => ?_) (fun q_4 => absurd (by decide) q_4)
    refine wp_iconst (a := -1) (pc' := 39) rfl rfl rfl ?_
    refine wp_ret rfl rfl rfl ?_
    exact Or.inl ⟨rfl, by omega, rfl⟩
