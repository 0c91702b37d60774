/-! years to come: then -/
def yS (c l n : Int) (K H G : Int → Int) (p : Int × Int) : Int × Int := (sBeside c l p.1 (sWay c l n K H G p.1 p.2), sAgainst (sWay c l n K H G p.1 p.2))
def yN (c l n : Int) (K H G : Int → Int) (p : Int × Int) : Nat → Int × Int
  | 0 => p
  | m + 1 => yS c l n K H G (yN c l n K H G p m)
theorem against_in {x : Int} (h : 0 ≤ x ∧ x ≤ 4) : 0 ≤ sAgainst x ∧ sAgainst x ≤ 4 := by
  unfold sAgainst
  (repeat' split) <;> omega
theorem yN_ok {c l n : Int} {K H G : Int → Int} {p : Int × Int} (hc : CL c l) (hp : Cel c l p.1) (hb : 0 ≤ p.2 ∧ p.2 ≤ 4) (hg : ∀ j : Int, 0 ≤ j → j < n → 1 ≤ G j ∧ G j ≤ 9) : ∀ m : Nat, Cel c l (yN c l n K H G p m).1 ∧ (0 ≤ (yN c l n K H G p m).2 ∧ (yN c l n K H G p m).2 ≤ 4) := by
  intro m
  induction m with
  | zero => exact ⟨hp, hb⟩
  | succ m ih =>
    have h := @sWay_ok _ _ n _ (yN c l n K H G p m).2 K H G hc ih.1 hg
    exact ⟨beside_cel hc ih.1 h.2.2, against_in ⟨h.1, h.2.1⟩⟩
theorem yN_congr {c l n : Int} {K K' H H' G G' : Int → Int} {p : Int × Int} (h : ∀ j : Int, 0 ≤ j → j < n → K j = K' j ∧ H j = H' j ∧ G j = G' j) : ∀ m : Nat, yN c l n K H G p m = yN c l n K' H' G' p m := by
  intro m
  induction m with
  | zero => rfl
  | succ m ih =>
    unfold yN yS
    rw [ih, sWay_congr h]
set_option maxRecDepth 20000 in
set_option maxHeartbeats 4000000 in
theorem l_then {w : Hp} {d : Nat} {n : Int} {p0 : Int × Int} {Q : Option PV → Hp → Prop} (hT0 : Stc w) (hr0 : ROw w) (hp : LnOK w) (hc0 : Cel (w 3 0) (w 3 1) p0.1) (hb0 : 0 ≤ p0.2 ∧ p0.2 ≤ 4) (hn : 0 ≤ n ∧ n ≤ 1000) (K : ∀ w1 : Hp, SameF w w1 [24, 25] [(26, 0), (26, 2)] → w1 26 0 = (yN (w 3 0) (w 3 1) (w 3 2) (w 4) (w 5) (w 6) p0 n.toNat).1 → WP SH (d + 6) 102 64 [some (vR 0), some (vI n), some (vI n)] [] w1 Q) : ∀ (k m : Nat) (y : Int) (w1 : Hp), y = m → y + k = n → SameF w w1 [24, 25] [(26, 0), (26, 2)] → (w1 26 0 = (yN (w 3 0) (w 3 1) (w 3 2) (w 4) (w 5) (w 6) p0 m).1 ∧ w1 26 2 = (yN (w 3 0) (w 3 1) (w 3 2) (w 4) (w 5) (w 6) p0 m).2) → WP SH (d + 6) 102 38 [some (vR 0), some (vI n), some (vI y)] [] w1 Q := by
  intro k
  induction k with
  | zero =>
    intro m y w1 hym hyk hS hcb
    have hT := hT0.sameF hS (by decide)
    have e3 : w1 3 = w 3 := hS.cell 3 (by decide) (by decide)
    have e4 : w1 4 = w 4 := hS.cell 4 (by decide) (by decide)
    have e5 : w1 5 = w 5 := hS.cell 5 (by decide) (by decide)
    have e6 : w1 6 = w 6 := hS.cell 6 (by decide) (by decide)
    have hr : ROw w1 := by
      unfold ROw
      rw [hS.cell (-3) (by decide) (by decide), hS.cell (-4) (by decide) (by decide), hS.cell (-5) (by decide) (by decide)]
      exact hr0
    have hp1 : LnOK w1 := by
      unfold LnOK
      rw [e3, e4, e5, e6]
      exact hp
    have hyo := @yN_ok _ _ (w 3 2) (w 4) (w 5) (w 6) p0 hp.1 hc0 hb0 (fun j a b => (hp.2.2 j a b).2.2) m
    have hx1 : Cel (w1 3 0) (w1 3 1) (w1 26 0) := by rw [e3, hcb.1]; exact hyo.1
    refine wp_iload_n (pc' := 39) rfl rfl rfl ?_
    refine wp_iload_n (pc' := 40) rfl rfl rfl ?_
    refine wp_icmp_ge (pc' := 43) (pt := 64) rfl rfl rfl (fun q_1 => ?_) (fun q_1 => ?_)
    · skip
      obtain rfl : y = n := by omega
      obtain rfl : m = y.toNat := by omega
      exact K w1 hS hcb.1
    · skip
      exfalso; omega
  | succ k ih =>
    intro m y w1 hym hyk hS hcb
    have hT := hT0.sameF hS (by decide)
    have e3 : w1 3 = w 3 := hS.cell 3 (by decide) (by decide)
    have e4 : w1 4 = w 4 := hS.cell 4 (by decide) (by decide)
    have e5 : w1 5 = w 5 := hS.cell 5 (by decide) (by decide)
    have e6 : w1 6 = w 6 := hS.cell 6 (by decide) (by decide)
    have hr : ROw w1 := by
      unfold ROw
      rw [hS.cell (-3) (by decide) (by decide), hS.cell (-4) (by decide) (by decide), hS.cell (-5) (by decide) (by decide)]
      exact hr0
    have hp1 : LnOK w1 := by
      unfold LnOK
      rw [e3, e4, e5, e6]
      exact hp
    have hyo := @yN_ok _ _ (w 3 2) (w 4) (w 5) (w 6) p0 hp.1 hc0 hb0 (fun j a b => (hp.2.2 j a b).2.2) m
    have hx1 : Cel (w1 3 0) (w1 3 1) (w1 26 0) := by rw [e3, hcb.1]; exact hyo.1
    refine wp_iload_n (pc' := 39) rfl rfl rfl ?_
    refine wp_iload_n (pc' := 40) rfl rfl rfl ?_
    refine wp_icmp_ge (pc' := 43) (pt := 64) rfl rfl rfl (fun q_1 => ?_) (fun q_1 => ?_)
    · skip
      exfalso; omega
    · skip
      refine wp_aload_n (pc' := 44) rfl rfl rfl (by decide) ?_
      refine wp_getR (r' := 26) (ci := 9) (k0 := 7) (pc' := 47) rfl rfl (by decide) (by first | assumption | rfl) (hT.get 7 rfl) ?_
      refine wp_aload_n (pc' := 48) rfl rfl rfl (by decide) ?_
      refine wp_getR (r' := 3) (ci := 9) (k0 := 2) (pc' := 51) rfl rfl (by decide) (by first | assumption | rfl) (hT.get 2 rfl) ?_
      refine wp_aload_n (pc' := 52) rfl rfl rfl (by decide) ?_
      refine wp_getR (r' := 23) (ci := 9) (k0 := 6) (pc' := 55) rfl rfl (by decide) (by first | assumption | rfl) (hT.get 6 rfl) ?_
      refine wp_call (pc' := 58) rfl rfl rfl rfl rfl ⟨Nat.le_of_ble_eq_true rfl, Nat.le_of_ble_eq_true rfl, Nat.le_of_ble_eq_true rfl, Nat.le_of_ble_eq_true rfl, Nat.le_of_ble_eq_true rfl⟩ rfl (c_Years_pass (w := w1) hT hr hp1 hx1) ?_
      rintro v1 w2 ⟨hv1, hS2, hc2, hk2⟩
      rw [hv1]
      clear hv1 v1
      dsimp only [Option.toList, List.cons_append, List.nil_append, List.append_nil]
      refine wp_iinc (pc' := 61) rfl rfl rfl (inc_id (by omega) (by omega)) rfl ?_
      dsimp only [lset, lset2, List.set, List.getElem?_cons_zero, List.getElem?_cons_succ]
      refine wp_goto (pc' := 38) rfl rfl ?_
      refine ih (m + 1) _ _ (by omega) (by omega) (hS.tr hS2) ?_
      rw [hc2, hk2, e3, e4, e5, e6, hcb.1, hcb.2]
      exact ⟨rfl, rfl⟩
set_option maxRecDepth 20000 in
set_option maxHeartbeats 4000000 in
theorem l_Mthen {w : Hp} {d : Nat} {n x2 : Int} {p0 : Int × Int} {Q : Option PV → Hp → Prop} (hT0 : Stc w) (hp : MdOK w) (hc0 : Cel (w 100 11) (w 100 12) p0.1) (hb0 : 0 ≤ p0.2 ∧ p0.2 ≤ 4) (hn : 0 ≤ n ∧ n ≤ 1000) (K : ∀ w1 : Hp, SameF w w1 [113] [(110, 0), (110, 1), (110, 2)] → w1 110 0 = (yN (w 100 11) (w 100 12) (w 100 10) (w 107) (fun i => w 109 (3 + i)) (w 108) p0 n.toNat).1 → WP SH (d + 8) 202 43 [some (vR 100), some (vI n), some (vI x2), some (vI n)] [] w1 Q) : ∀ (k m : Nat) (y : Int) (w1 : Hp), y = m → y + k = n → SameF w w1 [113] [(110, 0), (110, 1), (110, 2)] → (w1 110 0 = (yN (w 100 11) (w 100 12) (w 100 10) (w 107) (fun i => w 109 (3 + i)) (w 108) p0 m).1 ∧ w1 110 1 = (yN (w 100 11) (w 100 12) (w 100 10) (w 107) (fun i => w 109 (3 + i)) (w 108) p0 m).2 ∧ 0 ≤ w1 110 2 ∧ w1 110 2 ≤ 40 + m) → WP SH (d + 8) 202 24 [some (vR 100), some (vI n), some (vI x2), some (vI y)] [] w1 Q := by
  intro k
  induction k with
  | zero =>
    intro m y w1 hym hyk hS hcb
    have hT := hT0.sameF hS (by decide)
    have e100 : w1 100 = w 100 := hS.cell 100 (by decide) (by decide)
    have e107 : w1 107 = w 107 := hS.cell 107 (by decide) (by decide)
    have e108 : w1 108 = w 108 := hS.cell 108 (by decide) (by decide)
    have e109 : w1 109 = w 109 := hS.cell 109 (by decide) (by decide)
    have hp1 : MdOK w1 := hp.sameF hS (by decide) (by decide)
    have hyo := @yN_ok _ _ (w 100 10) (w 107) (fun i => w 109 (3 + i)) (w 108) p0 hp.1 hc0 hb0 (fun j a b => (hp.2.2 j a b).2.2) m
    have hx1 : Cel (w1 100 11) (w1 100 12) (w1 110 0) := by rw [e100, hcb.1]; exact hyo.1
    refine wp_iload_n (pc' := 25) rfl rfl rfl ?_
    refine wp_iload_n (pc' := 26) rfl rfl rfl ?_
    refine wp_icmp_ge (pc' := 29) (pt := 43) rfl rfl rfl (fun q_1 => ?_) (fun q_1 => ?_)
    · skip
      obtain rfl : y = n := by omega
      obtain rfl : m = y.toNat := by omega
      exact K w1 hS hcb.1
    · skip
      exfalso; omega
  | succ k ih =>
    intro m y w1 hym hyk hS hcb
    have hT := hT0.sameF hS (by decide)
    have e100 : w1 100 = w 100 := hS.cell 100 (by decide) (by decide)
    have e107 : w1 107 = w 107 := hS.cell 107 (by decide) (by decide)
    have e108 : w1 108 = w 108 := hS.cell 108 (by decide) (by decide)
    have e109 : w1 109 = w 109 := hS.cell 109 (by decide) (by decide)
    have hp1 : MdOK w1 := hp.sameF hS (by decide) (by decide)
    have hyo := @yN_ok _ _ (w 100 10) (w 107) (fun i => w 109 (3 + i)) (w 108) p0 hp.1 hc0 hb0 (fun j a b => (hp.2.2 j a b).2.2) m
    have hx1 : Cel (w1 100 11) (w1 100 12) (w1 110 0) := by rw [e100, hcb.1]; exact hyo.1
    refine wp_iload_n (pc' := 25) rfl rfl rfl ?_
    refine wp_iload_n (pc' := 26) rfl rfl rfl ?_
    refine wp_icmp_ge (pc' := 29) (pt := 43) rfl rfl rfl (fun q_1 => ?_) (fun q_1 => ?_)
    · skip
      exfalso; omega
    · skip
      refine wp_aload_n (pc' := 30) rfl rfl rfl (by decide) ?_
      refine wp_aload_n (pc' := 31) rfl rfl rfl (by decide) ?_
      refine wp_getR (r' := 110) (ci := 10) (k0 := 16) (pc' := 34) rfl rfl (by decide) (by first | assumption | rfl) (hT.get 108 rfl) ?_
      refine wp_call (pc' := 37) rfl rfl rfl rfl rfl ⟨Nat.le_of_ble_eq_true rfl, Nat.le_of_ble_eq_true rfl, Nat.le_of_ble_eq_true rfl, Nat.le_of_ble_eq_true rfl, Nat.le_of_ble_eq_true rfl⟩ rfl (c_Mod_passes_tried (w := w1) hT hp1 hx1 (by omega)) ?_
      rintro v1 w2 ⟨hv1, hS2, hc2, hk2, hy2⟩
      rw [hv1]
      clear hv1 v1
      dsimp only [Option.toList, List.cons_append, List.nil_append, List.append_nil]
      refine wp_iinc (pc' := 40) rfl rfl rfl (inc_id (by omega) (by omega)) rfl ?_
      dsimp only [lset, lset2, List.set, List.getElem?_cons_zero, List.getElem?_cons_succ]
      refine wp_goto (pc' := 24) rfl rfl ?_
      refine ih (m + 1) _ _ (by omega) (by omega) (hS.tr hS2) ?_
      rw [hc2, hk2, hy2, e100, e107, e108, e109, hcb.1, hcb.2.1]
      exact ⟨rfl, rfl, by omega, by omega⟩
