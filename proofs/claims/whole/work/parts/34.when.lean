/-! when -/
def wF (c l n : Int) (K H G : Int → Int) (p : Int × Int) (cell : Int) : Nat → Nat → Int
  | 0, _ => -9
  | k + 1, m => if (yN c l n K H G p m).1 = cell then m else wF c l n K H G p cell k (m + 1)
theorem wF_congr {c l n cell : Int} {K K' H H' G G' : Int → Int} {p : Int × Int} (h : ∀ j : Int, 0 ≤ j → j < n → K j = K' j ∧ H j = H' j ∧ G j = G' j) : ∀ k m : Nat, wF c l n K H G p cell k m = wF c l n K' H' G' p cell k m := by
  intro k
  induction k with
  | zero => intro m; rfl
  | succ k ih => intro m; unfold wF; rw [yN_congr h, ih]
set_option maxRecDepth 20000 in
set_option maxHeartbeats 4000000 in
theorem l_when {w : Hp} {d : Nat} {cell : Int} {p0 : Int × Int} (hT0 : Stc w) (hr0 : ROw w) (hp : LnOK w) (hc0 : Cel (w 3 0) (w 3 1) p0.1) (hb0 : 0 ≤ p0.2 ∧ p0.2 ≤ 4) : ∀ (k m : Nat) (y : Int) (w1 : Hp), y = m → m + k = 61 → SameF w w1 [24, 25] [(26, 0), (26, 2)] → (w1 26 0 = (yN (w 3 0) (w 3 1) (w 3 2) (w 4) (w 5) (w 6) p0 m).1 ∧ w1 26 2 = (yN (w 3 0) (w 3 1) (w 3 2) (w 4) (w 5) (w 6) p0 m).2) → WP SH (d + 6) 103 26 [some (vR 0), some (vI cell), some (vI y)] [] w1 (fun v w' => v = some (vI (wF (w 3 0) (w 3 1) (w 3 2) (w 4) (w 5) (w 6) p0 cell k m)) ∧ SameF w w' [24, 25] [(26, 0), (26, 2)]) := by
  intro k
  induction k with
  | zero =>
    intro m y w1 hym hyk hS hcb
    have hT := hT0.sameF hS (by decide)
    have e3 : w1 3 = w 3 := hS.cell 3 (by decide) (by decide)
    have e4 : w1 4 = w 4 := hS.cell 4 (by decide) (by decide)
    have e5 : w1 5 = w 5 := hS.cell 5 (by decide) (by decide)
    have e6 : w1 6 = w 6 := hS.cell 6 (by decide) (by decide)
    have hr : ROw w1 := by
      unfold ROw
      rw [hS.cell (-3) (by decide) (by decide), hS.cell (-4) (by decide) (by decide), hS.cell (-5) (by decide) (by decide)]
      exact hr0
    have hp1 : LnOK w1 := by
      unfold LnOK
      rw [e3, e4, e5, e6]
      exact hp
    have hyo := @yN_ok _ _ (w 3 2) (w 4) (w 5) (w 6) p0 hp.1 hc0 hb0 (fun j a b => (hp.2.2 j a b).2.2) m
    have hx1 : Cel (w1 3 0) (w1 3 1) (w1 26 0) := by rw [e3, hcb.1]; exact hyo.1
    refine wp_iload_n (pc' := 27) rfl rfl rfl ?_
    refine wp_bipush (a := 60) (pc' := 29) rfl rfl rfl ?_
    refine wp_icmp_gt (pc' := 32) (pt := 66) rfl rfl rfl (fun q_1 => ?_) (fun q_1 => ?_)
    · skip
      refine wp_bipush (a := -9) (pc' := 68) rfl rfl rfl ?_
      refine wp_ret rfl rfl rfl ?_
      exact ⟨rfl, hS⟩
    · skip
      exfalso; omega
  | succ k ih =>
    intro m y w1 hym hyk hS hcb
    have hT := hT0.sameF hS (by decide)
    have e3 : w1 3 = w 3 := hS.cell 3 (by decide) (by decide)
    have e4 : w1 4 = w 4 := hS.cell 4 (by decide) (by decide)
    have e5 : w1 5 = w 5 := hS.cell 5 (by decide) (by decide)
    have e6 : w1 6 = w 6 := hS.cell 6 (by decide) (by decide)
    have hr : ROw w1 := by
      unfold ROw
      rw [hS.cell (-3) (by decide) (by decide), hS.cell (-4) (by decide) (by decide), hS.cell (-5) (by decide) (by decide)]
      exact hr0
    have hp1 : LnOK w1 := by
      unfold LnOK
      rw [e3, e4, e5, e6]
      exact hp
    have hyo := @yN_ok _ _ (w 3 2) (w 4) (w 5) (w 6) p0 hp.1 hc0 hb0 (fun j a b => (hp.2.2 j a b).2.2) m
    have hx1 : Cel (w1 3 0) (w1 3 1) (w1 26 0) := by rw [e3, hcb.1]; exact hyo.1
    refine wp_iload_n (pc' := 27) rfl rfl rfl ?_
    refine wp_bipush (a := 60) (pc' := 29) rfl rfl rfl ?_
    refine wp_icmp_gt (pc' := 32) (pt := 66) rfl rfl rfl (fun q_1 => ?_) (fun q_1 => ?_)
    · skip
      exfalso; omega
    · skip
      refine wp_aload_n (pc' := 33) rfl rfl rfl (by decide) ?_
      refine wp_getR (r' := 26) (ci := 9) (k0 := 7) (pc' := 36) rfl rfl (by decide) (by first | assumption | rfl) (hT.get 7 rfl) ?_
      refine wp_getI (ci := 8) (k0 := 0) (pc' := 39) rfl rfl (by decide) (by first | assumption | rfl) ?_
      refine wp_iload_n (pc' := 40) rfl rfl rfl ?_
      refine wp_icmp_ne (pc' := 43) (pt := 45) rfl rfl rfl (fun q_2 => ?_) (fun q_2 => ?_)
      · skip
        refine wp_aload_n (pc' := 46) rfl rfl rfl (by decide) ?_
        refine wp_getR (r' := 26) (ci := 9) (k0 := 7) (pc' := 49) rfl rfl (by decide) (by first | assumption | rfl) (hT.get 7 rfl) ?_
        refine wp_aload_n (pc' := 50) rfl rfl rfl (by decide) ?_
        refine wp_getR (r' := 3) (ci := 9) (k0 := 2) (pc' := 53) rfl rfl (by decide) (by first | assumption | rfl) (hT.get 2 rfl) ?_
        refine wp_aload_n (pc' := 54) rfl rfl rfl (by decide) ?_
        refine wp_getR (r' := 23) (ci := 9) (k0 := 6) (pc' := 57) rfl rfl (by decide) (by first | assumption | rfl) (hT.get 6 rfl) ?_
        refine wp_call (pc' := 60) rfl rfl rfl rfl rfl ⟨Nat.le_of_ble_eq_true rfl, Nat.le_of_ble_eq_true rfl, Nat.le_of_ble_eq_true rfl, Nat.le_of_ble_eq_true rfl, Nat.le_of_ble_eq_true rfl⟩ rfl (c_Years_pass (w := w1) hT hr hp1 hx1) ?_
        rintro v1 w2 ⟨hv1, hS2, hc2, hk2⟩
        rw [hv1]
        clear hv1 v1
        dsimp only [Option.toList, List.cons_append, List.nil_append, List.append_nil]
        refine wp_iinc (pc' := 63) rfl rfl rfl (inc_id (by omega) (by omega)) rfl ?_
        dsimp only [lset, lset2, List.set, List.getElem?_cons_zero, List.getElem?_cons_succ]
        refine wp_goto (pc' := 26) rfl rfl ?_
        rw [wF, if_neg (by rw [← hcb.1]; omega)]
        refine ih (m + 1) _ _ (by omega) (by omega) (hS.tr hS2) ?_
        rw [hc2, hk2, e3, e4, e5, e6, hcb.1, hcb.2]
        exact ⟨rfl, rfl⟩
      · skip
        refine wp_iload_n (pc' := 44) rfl rfl rfl ?_
        refine wp_ret rfl rfl rfl ?_
        exact ⟨by rw [wF, if_pos (by rw [← hcb.1]; omega), hym], hS⟩
set_option maxRecDepth 20000 in
set_option maxHeartbeats 4000000 in
theorem l_Mwhen {w : Hp} {d : Nat} {cell : Int} {p0 : Int × Int} (hT0 : Stc w) (hp : MdOK w) (hc0 : Cel (w 100 11) (w 100 12) p0.1) (hb0 : 0 ≤ p0.2 ∧ p0.2 ≤ 4) : ∀ (k m : Nat) (y : Int) (w1 : Hp), y = m → m + k = 61 → SameF w w1 [113] [(110, 0), (110, 1), (110, 2)] → (w1 110 0 = (yN (w 100 11) (w 100 12) (w 100 10) (w 107) (fun i => w 109 (3 + i)) (w 108) p0 m).1 ∧ w1 110 1 = (yN (w 100 11) (w 100 12) (w 100 10) (w 107) (fun i => w 109 (3 + i)) (w 108) p0 m).2 ∧ 0 ≤ w1 110 2 ∧ w1 110 2 ≤ 40 + m) → WP SH (d + 8) 203 16 [some (vR 100), some (vI cell), some (vI y)] [] w1 (fun v w' => v = some (vI (wF (w 100 11) (w 100 12) (w 100 10) (w 107) (fun i => w 109 (3 + i)) (w 108) p0 cell k m)) ∧ SameF w w' [113] [(110, 0), (110, 1), (110, 2)]) := by
  intro k
  induction k with
  | zero =>
    intro m y w1 hym hyk hS hcb
    have hT := hT0.sameF hS (by decide)
    have e100 : w1 100 = w 100 := hS.cell 100 (by decide) (by decide)
    have e107 : w1 107 = w 107 := hS.cell 107 (by decide) (by decide)
    have e108 : w1 108 = w 108 := hS.cell 108 (by decide) (by decide)
    have e109 : w1 109 = w 109 := hS.cell 109 (by decide) (by decide)
    have hp1 : MdOK w1 := hp.sameF hS (by decide) (by decide)
    have hyo := @yN_ok _ _ (w 100 10) (w 107) (fun i => w 109 (3 + i)) (w 108) p0 hp.1 hc0 hb0 (fun j a b => (hp.2.2 j a b).2.2) m
    have hx1 : Cel (w1 100 11) (w1 100 12) (w1 110 0) := by rw [e100, hcb.1]; exact hyo.1
    refine wp_iload_n (pc' := 17) rfl rfl rfl ?_
    refine wp_bipush (a := 60) (pc' := 19) rfl rfl rfl ?_
    refine wp_icmp_gt (pc' := 22) (pt := 48) rfl rfl rfl (fun q_1 => ?_) (fun q_1 => ?_)
    · skip
      refine wp_bipush (a := -9) (pc' := 50) rfl rfl rfl ?_
      refine wp_ret rfl rfl rfl ?_
      exact ⟨rfl, hS⟩
    · skip
      exfalso; omega
  | succ k ih =>
    intro m y w1 hym hyk hS hcb
    have hT := hT0.sameF hS (by decide)
    have e100 : w1 100 = w 100 := hS.cell 100 (by decide) (by decide)
    have e107 : w1 107 = w 107 := hS.cell 107 (by decide) (by decide)
    have e108 : w1 108 = w 108 := hS.cell 108 (by decide) (by decide)
    have e109 : w1 109 = w 109 := hS.cell 109 (by decide) (by decide)
    have hp1 : MdOK w1 := hp.sameF hS (by decide) (by decide)
    have hyo := @yN_ok _ _ (w 100 10) (w 107) (fun i => w 109 (3 + i)) (w 108) p0 hp.1 hc0 hb0 (fun j a b => (hp.2.2 j a b).2.2) m
    have hx1 : Cel (w1 100 11) (w1 100 12) (w1 110 0) := by rw [e100, hcb.1]; exact hyo.1
    refine wp_iload_n (pc' := 17) rfl rfl rfl ?_
    refine wp_bipush (a := 60) (pc' := 19) rfl rfl rfl ?_
    refine wp_icmp_gt (pc' := 22) (pt := 48) rfl rfl rfl (fun q_1 => ?_) (fun q_1 => ?_)
    · skip
      exfalso; omega
    · skip
      refine wp_aload_n (pc' := 23) rfl rfl rfl (by decide) ?_
      refine wp_getR (r' := 110) (ci := 10) (k0 := 16) (pc' := 26) rfl rfl (by decide) (by first | assumption | rfl) (hT.get 108 rfl) ?_
      refine wp_iconst (a := 0) (pc' := 27) rfl rfl rfl ?_
      refine wp_iaload (pc' := 28) rfl rfl (by first | assumption | rfl) (by omega) ?_
      refine wp_iload_n (pc' := 29) rfl rfl rfl ?_
      refine wp_icmp_ne (pc' := 32) (pt := 34) rfl rfl rfl (fun q_2 => ?_) (fun q_2 => ?_)
      · skip
        refine wp_aload_n (pc' := 35) rfl rfl rfl (by decide) ?_
        refine wp_aload_n (pc' := 36) rfl rfl rfl (by decide) ?_
        refine wp_getR (r' := 110) (ci := 10) (k0 := 16) (pc' := 39) rfl rfl (by decide) (by first | assumption | rfl) (hT.get 108 rfl) ?_
        refine wp_call (pc' := 42) rfl rfl rfl rfl rfl ⟨Nat.le_of_ble_eq_true rfl, Nat.le_of_ble_eq_true rfl, Nat.le_of_ble_eq_true rfl, Nat.le_of_ble_eq_true rfl, Nat.le_of_ble_eq_true rfl⟩ rfl (c_Mod_passes_tried (w := w1) hT hp1 hx1 (by omega)) ?_
        rintro v1 w2 ⟨hv1, hS2, hc2, hk2, hy2⟩
        rw [hv1]
        clear hv1 v1
        dsimp only [Option.toList, List.cons_append, List.nil_append, List.append_nil]
        refine wp_iinc (pc' := 45) rfl rfl rfl (inc_id (by omega) (by omega)) rfl ?_
        dsimp only [lset, lset2, List.set, List.getElem?_cons_zero, List.getElem?_cons_succ]
        refine wp_goto (pc' := 16) rfl rfl ?_
        rw [wF, if_neg (by rw [← hcb.1]; omega)]
        refine ih (m + 1) _ _ (by omega) (by omega) (hS.tr hS2) ?_
        rw [hc2, hk2, hy2, e100, e107, e108, e109, hcb.1, hcb.2.1]
        exact ⟨rfl, rfl, by omega, by omega⟩
      · skip
        refine wp_iload_n (pc' := 33) rfl rfl rfl ?_
        refine wp_ret rfl rfl rfl ?_
        exact ⟨by rw [wF, if_pos (by rw [← hcb.1]; omega), hym], hS⟩
set_option maxRecDepth 20000 in
set_option maxHeartbeats 4000000 in
theorem p_when {w : Hp} {d : Nat} {cell : Int} (hI : Inv w) : WP SH (d + 9) 103 0 [some (vR 0), some (vI cell), none] [] w (fun v0 w1 => ∃ a, v0 = some (vI a) ∧ w1 (-2) = w (-2) ∧ WP SH (d + 9) 203 0 [some (vR 100), some (vI cell), none] [] w1 (fun v2 w2 => v2 = some (vI a) ∧ w2 (-2) = w1 (-2) ∧ Inv w2)) := by
  obtain ⟨hT, hRO, hIF, hITo, hIR, hIT, hIL, hIK⟩ := id hI
  obtain ⟨hn25, b11, b12, b10, hn6, hem, m0, m1, m2, m23, hyr, hdd, hpre⟩ := hI.base
  have hmm : w 100 11 * w 100 12 = w 3 0 * w 3 1 := by rw [b11, b12]
  refine wp_aload_n (pc' := 1) rfl rfl rfl (by decide) ?_
  refine wp_getR (r' := 3) (ci := 9) (k0 := 2) (pc' := 4) rfl rfl (by decide) (by first | assumption | rfl) (hT.get 2 rfl) ?_
  refine wp_iload_n (pc' := 5) rfl rfl rfl ?_
  refine wp_call (pc' := 8) rfl rfl rfl rfl rfl ⟨Nat.le_of_ble_eq_true rfl, Nat.le_of_ble_eq_true rfl, Nat.le_of_ble_eq_true rfl, Nat.le_of_ble_eq_true rfl, Nat.le_of_ble_eq_true rfl⟩ rfl (c_Land_hasCell hn25) ?_
  rintro v1 w9 ⟨hw9, ⟨hv1, hx⟩ | ⟨hv1, hx⟩⟩
  · skip
    rw [hv1, hw9]
    clear hv1 hw9 v1 w9
    dsimp only [Option.toList, List.cons_append, List.nil_append, List.append_nil]
    refine wp_if_ne (pc' := 11) (pt := 13) rfl rfl rfl (fun q_1 => ?_) (fun q_1 => absurd (by decide) q_1)
    refine wp_aload_n (pc' := 14) rfl rfl rfl (by decide) ?_
    refine wp_getR (r' := 26) (ci := 9) (k0 := 7) (pc' := 17) rfl rfl (by decide) (by first | assumption | rfl) (hT.get 7 rfl) ?_
    refine wp_aload_n (pc' := 18) rfl rfl rfl (by decide) ?_
    refine wp_getR (r' := 3) (ci := 9) (k0 := 2) (pc' := 21) rfl rfl (by decide) (by first | assumption | rfl) (hT.get 2 rfl) ?_
    refine wp_call (pc' := 24) rfl rfl rfl rfl rfl ⟨Nat.le_of_ble_eq_true rfl, Nat.le_of_ble_eq_true rfl, Nat.le_of_ble_eq_true rfl, Nat.le_of_ble_eq_true rfl, Nat.le_of_ble_eq_true rfl⟩ rfl (c_Years_begin hT) ?_
    rintro v1 wB ⟨hv1, hwB⟩
    rw [hv1]
    clear hv1 v1
    have hpr := hpre (fun z => by have := hem.mpr z; rw [this] at hx; omega)
    have hSB : SameF w wB LQ FQ := by rw [hwB]; exact ((SameF.rf w _ _).put (Or.inr (by decide))).put (Or.inr (by decide))
    have eB : ∀ q : Int, q ≠ 26 → wB q = w q := fun q a => by rw [hwB, up_ne a, up_ne a]
    have hTB : Stc wB := hT.sameF hSB (by decide)
    have hrB : ROw wB := by
      unfold ROw
      rw [eB _ (by decide), eB _ (by decide), eB _ (by decide)]
      exact hRO
    have hpB : LnOK wB := by
      unfold LnOK
      rw [eB 3 (by decide), eB 4 (by decide), eB 5 (by decide), eB 6 (by decide)]
      exact hpr.1
    have hB0 : wB 26 0 = w 3 3 := by rw [hwB, up_at (by decide), up_eq]
    have hB2 : wB 26 2 = w 3 4 := by rw [hwB, up_eq]
    have hT := hTB
    dsimp only [Option.toList, List.cons_append, List.nil_append, List.append_nil]
    refine wp_iconst (a := 0) (pc' := 25) rfl rfl rfl ?_
    refine wp_istore_n (pc' := 26) rfl rfl (Nat.le_of_ble_eq_true rfl) rfl ?_
    dsimp only [lset, lset2, List.set, List.getElem?_cons_zero, List.getElem?_cons_succ]
    refine WP.mono (l_when (w := wB) (p0 := (w 3 3, w 3 4)) hTB hrB hpB (by rw [eB 3 (by decide)]; exact hpr.2.2.1) hpr.2.2.2.1 61 0 0 wB rfl (by omega) (SameF.rf _ _ _) ⟨hB0, hB2⟩) (fun v3 w3 hq3 => ?_)
    obtain ⟨hv3, hS1⟩ := hq3
    rw [eB 3 (by decide), eB 4 (by decide), eB 5 (by decide), eB 6 (by decide)] at hv3
    have hS3 : SameF w w3 LQ FQ := hSB.tr (qry hS1 (by decide) (by decide))
    have hT := hT.sameF hS1 (by decide)
    have e310 : w3 100 10 = w 100 10 := hS3 100 10 (by decide) (by decide)
    have e311 : w3 100 11 * w3 100 12 = w 3 0 * w 3 1 := by rw [hS3 100 11 (by decide) (by decide), hS3 100 12 (by decide) (by decide), hmm]
    refine ⟨_, hv3, hS3.cell (-2) (by decide) (by decide), ?_⟩
    refine wp_aload_n (pc' := 1) rfl rfl rfl (by decide) ?_
    refine wp_iload_n (pc' := 2) rfl rfl rfl ?_
    refine wp_call (pc' := 5) rfl rfl rfl rfl rfl ⟨Nat.le_of_ble_eq_true rfl, Nat.le_of_ble_eq_true rfl, Nat.le_of_ble_eq_true rfl, Nat.le_of_ble_eq_true rfl, Nat.le_of_ble_eq_true rfl⟩ rfl (c_Mod_isCell (by omega)) ?_
    rintro v1 w9 ⟨hw9, ⟨hv1, hx2⟩ | ⟨hv1, hx2⟩⟩
    · skip
      rw [hv1, hw9]
      clear hv1 hw9 v1 w9
      dsimp only [Option.toList, List.cons_append, List.nil_append, List.append_nil]
      refine wp_if_ne (pc' := 8) (pt := 10) rfl rfl rfl (fun q_42 => ?_) (fun q_42 => absurd (by decide) q_42)
      refine wp_aload_n (pc' := 11) rfl rfl rfl (by decide) ?_
      refine wp_call (pc' := 14) rfl rfl rfl rfl rfl ⟨Nat.le_of_ble_eq_true rfl, Nat.le_of_ble_eq_true rfl, Nat.le_of_ble_eq_true rfl, Nat.le_of_ble_eq_true rfl, Nat.le_of_ble_eq_true rfl⟩ rfl (c_Mod_copyNow hT) ?_
      rintro v1 w4 ⟨hv1, hS4, hz4⟩
      rw [hv1]
      clear hv1 v1
      have hS4Q : SameF w w4 LQ FQ := hS3.tr (qry (hS4.F []) (by decide) (by decide))
      have hT4 := hT.same hS4 (by decide)
      have f411 : w4 100 11 = w 100 11 := hS4Q 100 11 (by decide) (by decide)
      have f412 : w4 100 12 = w 100 12 := hS4Q 100 12 (by decide) (by decide)
      have f410 : w4 100 10 = w 100 10 := hS4Q 100 10 (by decide) (by decide)
      have f407 : w4 107 = w 107 := hS4Q.cell 107 (by decide) (by decide)
      have f408 : w4 108 = w 108 := hS4Q.cell 108 (by decide) (by decide)
      have f409 : w4 109 = w 109 := hS4Q.cell 109 (by decide) (by decide)
      have f39 : w3 109 = w 109 := hS3.cell 109 (by decide) (by decide)
      have hp4 : MdOK w4 := by
        unfold MdOK
        rw [f411, f412, f410, f407, f408, f409]
        exact hpr.2.1
      dsimp only [Option.toList, List.cons_append, List.nil_append, List.append_nil]
      refine wp_iconst (a := 0) (pc' := 15) rfl rfl rfl ?_
      refine wp_istore_n (pc' := 16) rfl rfl (Nat.le_of_ble_eq_true rfl) rfl ?_
      dsimp only [lset, lset2, List.set, List.getElem?_cons_zero, List.getElem?_cons_succ]
      refine WP.mono (l_Mwhen (w := w4) (p0 := (w 3 3, w 3 4)) hT4 hp4 (by rw [f411, f412, b11, b12]; exact hpr.2.2.1) hpr.2.2.2.1 61 0 0 w4 rfl (by omega) (SameF.rf _ _ _) ⟨?_, ?_, ?_, ?_⟩) (fun v5 w5 hq5 => ?_)
      · show w4 110 0 = w 3 3
        rw [hz4 0 (by decide) (by decide), f39, m0]
      · show w4 110 1 = w 3 4
        rw [hz4 1 (by decide) (by decide), f39, m1]
      · rw [hz4 2 (by decide) (by decide), f39, m2]; omega
      · rw [hz4 2 (by decide) (by decide), f39, m2]; omega
      obtain ⟨hv5, hS5⟩ := hq5
      rw [f411, f412, f410, f407, f408, f409, b11, b12, b10, wF_congr (K' := w 4) (H' := w 5) (G' := w 6) (fun j a b => hpr.2.2.2.2 j a b)] at hv5
      have hS35 : SameF w w5 LQ FQ := hS4Q.tr (qry hS5 (by decide) (by decide))
      refine ⟨hv5, ?_, hI.query hS35 ?_⟩
      · exact (hS35.cell (-2) (by decide) (by decide)).trans (hS3.cell (-2) (by decide) (by decide)).symm
      · rw [hS5 0 14 (by decide) (by decide), hS5 100 2 (by decide) (by decide), hS4 0 (by decide), hS4 100 (by decide), hS1 0 14 (by decide) (by decide), hS1 100 2 (by decide) (by decide), eB 0 (by decide), eB 100 (by decide)]
        exact hITo
    · skip
      rw [hv1, hw9]
      clear hv1 hw9 v1 w9
      dsimp only [Option.toList, List.cons_append, List.nil_append, List.append_nil]
      refine wp_if_ne (pc' := 8) (pt := 10) rfl rfl rfl (fun q_43 => absurd q_43 (by decide)) (fun q_43 => ?_)
      refine wp_iconst (a := -1) (pc' := 9) rfl rfl rfl ?_
      refine wp_ret rfl rfl rfl ?_
      exfalso; omega
  · skip
    rw [hv1, hw9]
    clear hv1 hw9 v1 w9
    dsimp only [Option.toList, List.cons_append, List.nil_append, List.append_nil]
    refine wp_if_ne (pc' := 11) (pt := 13) rfl rfl rfl (fun q_44 => absurd q_44 (by decide)) (fun q_44 => ?_)
    refine wp_iconst (a := -1) (pc' := 12) rfl rfl rfl ?_
    refine wp_ret rfl rfl rfl ?_
    refine ⟨_, rfl, ?_, ?_⟩
    · rfl
    refine wp_aload_n (pc' := 1) rfl rfl rfl (by decide) ?_
    refine wp_iload_n (pc' := 2) rfl rfl rfl ?_
    refine wp_call (pc' := 5) rfl rfl rfl rfl rfl ⟨Nat.le_of_ble_eq_true rfl, Nat.le_of_ble_eq_true rfl, Nat.le_of_ble_eq_true rfl, Nat.le_of_ble_eq_true rfl, Nat.le_of_ble_eq_true rfl⟩ rfl (c_Mod_isCell (by omega)) ?_
    rintro v1 w9 ⟨hw9, ⟨hv1, hx2⟩ | ⟨hv1, hx2⟩⟩
    · skip
      rw [hv1, hw9]
      clear hv1 hw9 v1 w9
      dsimp only [Option.toList, List.cons_append, List.nil_append, List.append_nil]
      refine wp_if_ne (pc' := 8) (pt := 10) rfl rfl rfl (fun q_95 => ?_) (fun q_95 => absurd (by decide) q_95)
      exfalso; omega
    · skip
      rw [hv1, hw9]
      clear hv1 hw9 v1 w9
      dsimp only [Option.toList, List.cons_append, List.nil_append, List.append_nil]
      refine wp_if_ne (pc' := 8) (pt := 10) rfl rfl rfl (fun q_96 => absurd q_96 (by decide)) (fun q_96 => ?_)
      refine wp_iconst (a := -1) (pc' := 9) rfl rfl rfl ?_
      refine wp_ret rfl rfl rfl ?_
      exact ⟨rfl, rfl, hI⟩
