/-! chances, the reference's side -/
theorem worth_in {c l n cell : Int} {K H G : Int → Int} (hc : CL c l) (hx : Cel c l cell) (h0 : 0 ≤ n) (h6 : n ≤ 6) (hh : ∀ j : Int, 0 ≤ j → j < n → Cel c l (H j)) (hg : ∀ j : Int, 0 ≤ j → j < n → 1 ≤ G j ∧ G j ≤ 9) : 0 ≤ sumI (fWorth c K H G cell) n ∧ sumI (fWorth c K H G cell) n ≤ 972 := by
  have := @sumI_bd (fWorth c K H G cell) 0 162 n h0 (fun j a b => by
    have h1 := hg j a b
    have h2 := @sG_in c l (K j) (H j) cell hc (hh j a b) hx
    have h3 := mul_bd (show 0 ≤ G j by omega) h1.2 h2.1 h2.2
    unfold fWorth
    omega)
  omega
theorem wp_gen {sh : Shp} {d mi pc : Nat} {ls : PL} {st : List PV} {w : Hp} {Q : Option PV → Hp → Prop} (k : ∀ w' : Hp, w' = w → WP sh d mi pc ls st w' Q) : WP sh d mi pc ls st w Q := k w rfl
def fP (V p way n : Int) (C G : Int → Int) : Int → Int := fun x => if iAnd x (iXor V (-1)) = 0 then (if wnB n C G x = way then prodN (fB V p x) n.toNat else 0) else 0
def fQ (V p n : Int) (C G W : Int → Int) : Int → Int := fun x => if iAnd x (iXor V (-1)) = 0 then prodN (fB V p x) n.toNat * W (wnB n C G x) else 0
theorem fP_in {V p way n x : Int} {C G : Int → Int} (hp : 0 ≤ p ∧ p ≤ 12) (hn : n ≤ 6) : 0 ≤ fP V p way n C G x ∧ fP V p way n C G x ≤ 2985984 := by
  have := @wtB_in V p x n.toNat hp (by omega)
  unfold fP
  (repeat' split) <;> omega
theorem fQ_in {V p n x : Int} {C G W : Int → Int} (hp : 0 ≤ p ∧ p ≤ 12) (hn : n ≤ 6) (hW : 0 ≤ W (wnB n C G x) ∧ W (wnB n C G x) ≤ 972) : 0 ≤ fQ V p n C G W x ∧ fQ V p n C G W x ≤ 2902376448 := by
  have h1 := @wtB_in V p x n.toNat hp (by omega)
  have h2 := mul_bd h1.1 h1.2 hW.1 hW.2
  unfold fQ
  split <;> omega
set_option maxRecDepth 20000 in
set_option maxHeartbeats 4000000 in
theorem l_lp1 {w : Hp} {d : Nat} {way p : Int} (hT0 : Stc w) (hl : MdOK w) (hx : Cel (w 100 11) (w 100 12) (w 109 0)) (hp : 0 ≤ p ∧ p ≤ 12) {Q : Option PV → Hp → Prop} (K : ∀ (w1 : Hp) (x5 : Option PV), SameF w w1 [113] [(100, 34), (100, 35), (100, 36)] → w1 100 34 = prodN (fWh (fVote (w 100 11) (w 100 12) (w 107) (fun i => w 109 (3 + i)) (w 109 0) (w 109 1))) (w 100 10).toNat → w1 100 35 = 0 → w1 100 36 = 0 → WP SH (d + 6) 220 102 [some (vR 100), some (vI way), some (vI p), some (vI (orN (fVt (fVote (w 100 11) (w 100 12) (w 107) (fun i => w 109 (3 + i)) (w 109 0) (w 109 1))) (w 100 10).toNat)), some (vI (w 100 10)), x5, none, none] [] w1 Q) : ∀ (k m : Nat) (s y : Int) (w1 : Hp) (x5 : Option PV), y = m → m + k = (w 100 10).toNat → s = orN (fVt (fVote (w 100 11) (w 100 12) (w 107) (fun i => w 109 (3 + i)) (w 109 0) (w 109 1))) m → SameF w w1 [113] [(100, 34), (100, 35), (100, 36)] → w1 100 34 = prodN (fWh (fVote (w 100 11) (w 100 12) (w 107) (fun i => w 109 (3 + i)) (w 109 0) (w 109 1))) m → w1 100 35 = 0 → w1 100 36 = 0 → WP SH (d + 6) 220 20 [some (vR 100), some (vI way), some (vI p), some (vI s), some (vI y), x5, none, none] [] w1 Q := by
  intro k
  induction k with
  | zero =>
    intro m s y w1 x5 hy hmk hs hS h34 h35 h36
    have hT := hT0.sameF hS (by decide)
    have e10 : w1 100 10 = w 100 10 := hS 100 10 (by decide) (by decide)
    have e11 : w1 100 11 = w 100 11 := hS 100 11 (by decide) (by decide)
    have e12 : w1 100 12 = w 100 12 := hS 100 12 (by decide) (by decide)
    have e7 : w1 107 = w 107 := hS.cell 107 (by decide) (by decide)
    have e8 : w1 108 = w 108 := hS.cell 108 (by decide) (by decide)
    have e9 : w1 109 = w 109 := hS.cell 109 (by decide) (by decide)
    have hl1 : MdOK w1 := hl.sameF hS (by decide) (by decide)
    have hx1 : Cel (w1 100 11) (w1 100 12) (w1 109 0) := by rw [e11, e12, e9]; exact hx
    have hn := hl.2.1
    have hbw := prodN_bd (m := m) (f := fWh (fVote (w 100 11) (w 100 12) (w 107) (fun i => w 109 (3 + i)) (w 109 0) (w 109 1))) (fun j _ _ => by unfold fWh; split <;> omega)
    have hb12 := @pow12 m (by omega)
    rw [← h34] at hbw
    refine wp_iload (pc' := 22) rfl rfl rfl ?_
    refine wp_aload_n (pc' := 23) rfl rfl rfl (by decide) ?_
    refine wp_getI (ci := 10) (k0 := 10) (pc' := 26) rfl rfl (by decide) (by first | assumption | rfl) ?_
    refine wp_icmp_ge (pc' := 29) (pt := 102) rfl rfl rfl (fun q_1 => ?_) (fun q_1 => ?_)
    · skip
      obtain rfl : m = (w 100 10).toNat := by omega
      obtain rfl : y = w 100 10 := by omega
      rw [hs]
      exact K w1 x5 hS h34 h35 h36
    · skip
      exfalso; omega
  | succ k ih =>
    intro m s y w1 x5 hy hmk hs hS h34 h35 h36
    have hT := hT0.sameF hS (by decide)
    have e10 : w1 100 10 = w 100 10 := hS 100 10 (by decide) (by decide)
    have e11 : w1 100 11 = w 100 11 := hS 100 11 (by decide) (by decide)
    have e12 : w1 100 12 = w 100 12 := hS 100 12 (by decide) (by decide)
    have e7 : w1 107 = w 107 := hS.cell 107 (by decide) (by decide)
    have e8 : w1 108 = w 108 := hS.cell 108 (by decide) (by decide)
    have e9 : w1 109 = w 109 := hS.cell 109 (by decide) (by decide)
    have hl1 : MdOK w1 := hl.sameF hS (by decide) (by decide)
    have hx1 : Cel (w1 100 11) (w1 100 12) (w1 109 0) := by rw [e11, e12, e9]; exact hx
    have hn := hl.2.1
    have hbw := prodN_bd (m := m) (f := fWh (fVote (w 100 11) (w 100 12) (w 107) (fun i => w 109 (3 + i)) (w 109 0) (w 109 1))) (fun j _ _ => by unfold fWh; split <;> omega)
    have hb12 := @pow12 m (by omega)
    rw [← h34] at hbw
    refine wp_iload (pc' := 22) rfl rfl rfl ?_
    refine wp_aload_n (pc' := 23) rfl rfl rfl (by decide) ?_
    refine wp_getI (ci := 10) (k0 := 10) (pc' := 26) rfl rfl (by decide) (by first | assumption | rfl) ?_
    refine wp_icmp_ge (pc' := 29) (pt := 102) rfl rfl rfl (fun q_1 => ?_) (fun q_1 => ?_)
    · skip
      exfalso; omega
    · skip
      refine wp_aload_n (pc' := 30) rfl rfl rfl (by decide) ?_
      refine wp_iload (pc' := 32) rfl rfl rfl ?_
      refine wp_aload_n (pc' := 33) rfl rfl rfl (by decide) ?_
      refine wp_getR (r' := 109) (ci := 10) (k0 := 15) (pc' := 36) rfl rfl (by decide) (by first | assumption | rfl) (hT.get 107 rfl) ?_
      refine wp_iconst (a := 0) (pc' := 37) rfl rfl rfl ?_
      refine wp_iaload (pc' := 38) rfl rfl (by first | assumption | rfl) (by omega) ?_
      refine wp_aload_n (pc' := 39) rfl rfl rfl (by decide) ?_
      refine wp_getR (r' := 109) (ci := 10) (k0 := 15) (pc' := 42) rfl rfl (by decide) (by first | assumption | rfl) (hT.get 107 rfl) ?_
      refine wp_iconst (a := 1) (pc' := 43) rfl rfl rfl ?_
      refine wp_iaload (pc' := 44) rfl rfl (by first | assumption | rfl) (by omega) ?_
      refine wp_call (pc' := 47) rfl rfl rfl rfl rfl ⟨Nat.le_of_ble_eq_true rfl, Nat.le_of_ble_eq_true rfl, Nat.le_of_ble_eq_true rfl, Nat.le_of_ble_eq_true rfl, Nat.le_of_ble_eq_true rfl⟩ rfl (c_Mod_voteOn hl1.1 hT (by omega) hx1 (hl1.2.2 y (by omega) (by omega)).2.1) ?_
      intro v1 w9 hq1
      rw [hq1.1, hq1.2]
      clear hq1 v1 w9
      rw [e11, e12, e7, e9]
      have hcv : (fVote (w 100 11) (w 100 12) (w 107) (fun i => w 109 (3 + i)) (w 109 0) (w 109 1)) y = sVote (w 100 11) (w 100 12) (w 107 y) (w 109 (3 + y)) (w 109 0) (w 109 1) := rfl
      dsimp only [Option.toList, List.cons_append, List.nil_append, List.append_nil]
      refine wp_bipush (a := -9) (pc' := 49) rfl rfl rfl ?_
      refine wp_icmp_eq (pc' := 52) (pt := 56) rfl rfl rfl (fun q_2 => ?_) (fun q_2 => ?_)
      · skip
        refine wp_iconst (a := 0) (pc' := 57) rfl rfl rfl ?_
        refine wp_istore (pc' := 59) rfl rfl (Nat.le_of_ble_eq_true rfl) rfl ?_
        dsimp only [lset, lset2, List.set, List.getElem?_cons_zero, List.getElem?_cons_succ]
        refine wp_iload_n (pc' := 60) rfl rfl rfl ?_
        refine wp_iload (pc' := 62) rfl rfl rfl ?_
        refine wp_if_eq (pc' := 65) (pt := 72) rfl rfl rfl (fun q_3 => ?_) (fun q_3 => absurd (by decide) q_3)
        refine wp_iconst (a := 0) (pc' := 73) rfl rfl rfl ?_
        refine wp_ior (pc' := 74) rfl rfl rfl ?_
        refine wp_istore_n (pc' := 75) rfl rfl (Nat.le_of_ble_eq_true rfl) rfl ?_
        dsimp only [lset, lset2, List.set, List.getElem?_cons_zero, List.getElem?_cons_succ]
        refine wp_aload_n (pc' := 76) rfl rfl rfl (by decide) ?_
        refine wp_dupR (pc' := 77) rfl rfl ?_
        refine wp_getL (ci := 10) (k0 := 34) (pc' := 80) rfl rfl (by decide) (by first | assumption | rfl) ?_
        refine wp_iload (pc' := 82) rfl rfl rfl ?_
        refine wp_if_eq (pc' := 85) (pt := 91) rfl rfl rfl (fun q_4 => ?_) (fun q_4 => absurd (by decide) q_4)
        refine wp_lconst (a := 1) (pc' := 92) rfl rfl rfl ?_
        refine wp_lmul (pc' := 93) rfl rfl (by first | exact w64_id (by omega) (by omega) | rfl) ?_
        refine wp_putL (ci := 10) (k0 := 34) (pc' := 96) rfl rfl (by decide) (by first | assumption | rfl) ?_
        refine wp_iinc (pc' := 99) rfl rfl rfl (inc_id (by omega) (by omega)) rfl ?_
        dsimp only [lset, lset2, List.set, List.getElem?_cons_zero, List.getElem?_cons_succ]
        refine wp_goto (pc' := 20) rfl rfl ?_
        subst hy
        refine ih (m + 1) _ _ _ _ (by omega) (by omega) ?_ (hS.put (Or.inr (by decide))) ?_ ?_ ?_
        · rw [orN, ← hs]
          have hv0 : fVt (fVote (w 100 11) (w 100 12) (w 107) (fun i => w 109 (3 + i)) (w 109 0) (w 109 1)) (m : Int) = (if sVote (w 100 11) (w 100 12) (w 107 m) (w 109 (3 + (m : Int))) (w 109 0) (w 109 1) = -9 then 0 else 1) := rfl
          rw [hv0]
          first
          | (exfalso; omega)
          | (rw [if_pos (show sVote (w 100 11) (w 100 12) (w 107 m) (w 109 (3 + (m : Int))) (w 109 0) (w 109 1) = -9 by omega), if_neg (by decide)])
          | (rw [if_neg (show ¬ sVote (w 100 11) (w 100 12) (w 107 m) (w 109 (3 + (m : Int))) (w 109 0) (w 109 1) = -9 by omega), if_pos rfl])
        · rw [up_eq, prodN, ← h34]
          unfold fWh
          rw [hcv]
          first
          | (exfalso; omega)
          | (rw [if_pos (by omega)])
          | (rw [if_neg (by omega)])
        · rw [up_at (by decide)]; exact h35
        · rw [up_at (by decide)]; exact h36
      · skip
        refine wp_iconst (a := 1) (pc' := 53) rfl rfl rfl ?_
        refine wp_goto (pc' := 57) rfl rfl ?_
        refine wp_istore (pc' := 59) rfl rfl (Nat.le_of_ble_eq_true rfl) rfl ?_
        dsimp only [lset, lset2, List.set, List.getElem?_cons_zero, List.getElem?_cons_succ]
        refine wp_iload_n (pc' := 60) rfl rfl rfl ?_
        refine wp_iload (pc' := 62) rfl rfl rfl ?_
        refine wp_if_eq (pc' := 65) (pt := 72) rfl rfl rfl (fun q_5 => absurd q_5 (by decide)) (fun q_5 => ?_)
        refine wp_iconst (a := 1) (pc' := 66) rfl rfl rfl ?_
        refine wp_iload (pc' := 68) rfl rfl rfl ?_
        refine wp_ishl (pc' := 69) rfl rfl rfl ?_
        refine wp_goto (pc' := 73) rfl rfl ?_
        refine wp_ior (pc' := 74) rfl rfl rfl ?_
        refine wp_istore_n (pc' := 75) rfl rfl (Nat.le_of_ble_eq_true rfl) rfl ?_
        dsimp only [lset, lset2, List.set, List.getElem?_cons_zero, List.getElem?_cons_succ]
        refine wp_aload_n (pc' := 76) rfl rfl rfl (by decide) ?_
        refine wp_dupR (pc' := 77) rfl rfl ?_
        refine wp_getL (ci := 10) (k0 := 34) (pc' := 80) rfl rfl (by decide) (by first | assumption | rfl) ?_
        refine wp_iload (pc' := 82) rfl rfl rfl ?_
        refine wp_if_eq (pc' := 85) (pt := 91) rfl rfl rfl (fun q_6 => absurd q_6 (by decide)) (fun q_6 => ?_)
        refine wp_ldc2_w (a := 12) (pc' := 88) rfl rfl rfl ?_
        refine wp_goto (pc' := 92) rfl rfl ?_
        refine wp_lmul (pc' := 93) rfl rfl (by first | exact w64_id (by omega) (by omega) | rfl) ?_
        refine wp_putL (ci := 10) (k0 := 34) (pc' := 96) rfl rfl (by decide) (by first | assumption | rfl) ?_
        refine wp_iinc (pc' := 99) rfl rfl rfl (inc_id (by omega) (by omega)) rfl ?_
        dsimp only [lset, lset2, List.set, List.getElem?_cons_zero, List.getElem?_cons_succ]
        refine wp_goto (pc' := 20) rfl rfl ?_
        subst hy
        refine ih (m + 1) _ _ _ _ (by omega) (by omega) ?_ (hS.put (Or.inr (by decide))) ?_ ?_ ?_
        · rw [orN, ← hs]
          have hv0 : fVt (fVote (w 100 11) (w 100 12) (w 107) (fun i => w 109 (3 + i)) (w 109 0) (w 109 1)) (m : Int) = (if sVote (w 100 11) (w 100 12) (w 107 m) (w 109 (3 + (m : Int))) (w 109 0) (w 109 1) = -9 then 0 else 1) := rfl
          rw [hv0]
          first
          | (exfalso; omega)
          | (rw [if_pos (show sVote (w 100 11) (w 100 12) (w 107 m) (w 109 (3 + (m : Int))) (w 109 0) (w 109 1) = -9 by omega), if_neg (by decide)])
          | (rw [if_neg (show ¬ sVote (w 100 11) (w 100 12) (w 107 m) (w 109 (3 + (m : Int))) (w 109 0) (w 109 1) = -9 by omega), if_pos rfl])
        · rw [up_eq, prodN, ← h34]
          unfold fWh
          rw [hcv]
          first
          | (exfalso; omega)
          | (rw [if_pos (by omega)])
          | (rw [if_neg (by omega)])
        · rw [up_at (by decide)]; exact h35
        · rw [up_at (by decide)]; exact h36
set_option maxRecDepth 20000 in
set_option maxHeartbeats 4000000 in
theorem l_lp2 {w : Hp} {d : Nat} {way p V x : Int} {Q : Option PV → Hp → Prop} (hT : Stc w) (hn : 1 ≤ w 100 10 ∧ w 100 10 ≤ 6) (hp : 0 ≤ p ∧ p ≤ 12) (K : ∀ y : Int, WP SH (d + 1) 220 179 [some (vR 100), some (vI way), some (vI p), some (vI V), some (vI x), some (vL (prodN (fB V p x) (w 100 10).toNat)), none, some (vI y)] [] w Q) : ∀ (k m : Nat) (c y : Int), y = m → m + k = (w 100 10).toNat → c = prodN (fB V p x) m → WP SH (d + 1) 220 126 [some (vR 100), some (vI way), some (vI p), some (vI V), some (vI x), some (vL c), none, some (vI y)] [] w Q := by
  intro k
  induction k with
  | zero =>
    intro m c y hy hmk hc
    have hbd := @wtB_in V p x m hp (by omega)
    rw [← hc] at hbd
    have hm1 : 0 ≤ c * p ∧ c * p ≤ 2985984 * 12 := mul_bd hbd.1 hbd.2 hp.1 hp.2
    have hm2 : 0 ≤ c * (12 - p) ∧ c * (12 - p) ≤ 2985984 * 12 := mul_bd hbd.1 hbd.2 (by omega) (by omega)
    refine wp_iload (pc' := 128) rfl rfl rfl ?_
    refine wp_aload_n (pc' := 129) rfl rfl rfl (by decide) ?_
    refine wp_getI (ci := 10) (k0 := 10) (pc' := 132) rfl rfl (by decide) (by first | assumption | rfl) ?_
    refine wp_icmp_ge (pc' := 135) (pt := 179) rfl rfl rfl (fun q_1 => ?_) (fun q_1 => ?_)
    · skip
      obtain rfl : m = (w 100 10).toNat := by omega
      rw [hc]
      exact K y
    · skip
      exfalso; omega
  | succ k ih =>
    intro m c y hy hmk hc
    have hbd := @wtB_in V p x m hp (by omega)
    rw [← hc] at hbd
    have hm1 : 0 ≤ c * p ∧ c * p ≤ 2985984 * 12 := mul_bd hbd.1 hbd.2 hp.1 hp.2
    have hm2 : 0 ≤ c * (12 - p) ∧ c * (12 - p) ≤ 2985984 * 12 := mul_bd hbd.1 hbd.2 (by omega) (by omega)
    refine wp_iload (pc' := 128) rfl rfl rfl ?_
    refine wp_aload_n (pc' := 129) rfl rfl rfl (by decide) ?_
    refine wp_getI (ci := 10) (k0 := 10) (pc' := 132) rfl rfl (by decide) (by first | assumption | rfl) ?_
    refine wp_icmp_ge (pc' := 135) (pt := 179) rfl rfl rfl (fun q_1 => ?_) (fun q_1 => ?_)
    · skip
      exfalso; omega
    · skip
      refine wp_lload (pc' := 137) rfl rfl rfl ?_
      refine wp_iload_n (pc' := 138) rfl rfl rfl ?_
      refine wp_iload (pc' := 140) rfl rfl rfl ?_
      refine wp_call (pc' := 143) rfl rfl rfl rfl rfl ⟨Nat.le_of_ble_eq_true rfl, Nat.le_of_ble_eq_true rfl, Nat.le_of_ble_eq_true rfl, Nat.le_of_ble_eq_true rfl, Nat.le_of_ble_eq_true rfl⟩ rfl (c_Mod_has) ?_
      rintro v1 w9 ⟨hw9, ⟨hv1, hb1⟩ | ⟨hv1, hb1⟩⟩
      · skip
        rw [hv1, hw9]
        clear hv1 hw9 v1 w9
        dsimp only [Option.toList, List.cons_append, List.nil_append, List.append_nil]
        refine wp_if_ne (pc' := 146) (pt := 150) rfl rfl rfl (fun q_2 => ?_) (fun q_2 => absurd (by decide) q_2)
        refine wp_iload (pc' := 152) rfl rfl rfl ?_
        refine wp_iload (pc' := 154) rfl rfl rfl ?_
        refine wp_call (pc' := 157) rfl rfl rfl rfl rfl ⟨Nat.le_of_ble_eq_true rfl, Nat.le_of_ble_eq_true rfl, Nat.le_of_ble_eq_true rfl, Nat.le_of_ble_eq_true rfl, Nat.le_of_ble_eq_true rfl⟩ rfl (c_Mod_has) ?_
        rintro v1 w9 ⟨hw9, ⟨hv1, hb2⟩ | ⟨hv1, hb2⟩⟩
        · skip
          rw [hv1, hw9]
          clear hv1 hw9 v1 w9
          dsimp only [Option.toList, List.cons_append, List.nil_append, List.append_nil]
          refine wp_if_eq (pc' := 160) (pt := 168) rfl rfl rfl (fun q_3 => absurd q_3 (by decide)) (fun q_3 => ?_)
          refine wp_bipush (a := 12) (pc' := 162) rfl rfl rfl ?_
          refine wp_iload_n (pc' := 163) rfl rfl rfl ?_
          refine wp_isub (pc' := 164) rfl rfl (by first | exact w32_id (by omega) (by omega) | rfl) ?_
          refine wp_i2l (pc' := 165) rfl rfl ?_
          refine wp_goto (pc' := 170) rfl rfl ?_
          refine wp_lmul (pc' := 171) rfl rfl (by first | exact w64_id (by omega) (by omega) | rfl) ?_
          refine wp_lstore (pc' := 173) rfl rfl (Nat.le_of_ble_eq_true rfl) rfl ?_
          dsimp only [lset, lset2, List.set, List.getElem?_cons_zero, List.getElem?_cons_succ]
          refine wp_iinc (pc' := 176) rfl rfl rfl (inc_id (by omega) (by omega)) rfl ?_
          dsimp only [lset, lset2, List.set, List.getElem?_cons_zero, List.getElem?_cons_succ]
          refine wp_goto (pc' := 126) rfl rfl ?_
          refine ih (m + 1) _ _ (by omega) (by omega) ?_
          subst hy
          rw [prodN, ← hc]
          unfold fB
          first
          | (exfalso; omega)
          | (rw [if_neg (show ¬ bit V (m : Int) = 1 by omega)])
          | (rw [if_pos (show bit V (m : Int) = 1 by omega), if_pos (show bit x (m : Int) = 1 by omega)])
          | (rw [if_pos (show bit V (m : Int) = 1 by omega), if_neg (show ¬ bit x (m : Int) = 1 by omega)])
        · skip
          rw [hv1, hw9]
          clear hv1 hw9 v1 w9
          dsimp only [Option.toList, List.cons_append, List.nil_append, List.append_nil]
          refine wp_if_eq (pc' := 160) (pt := 168) rfl rfl rfl (fun q_4 => ?_) (fun q_4 => absurd (by decide) q_4)
          refine wp_iload_n (pc' := 169) rfl rfl rfl ?_
          refine wp_i2l (pc' := 170) rfl rfl ?_
          refine wp_lmul (pc' := 171) rfl rfl (by first | exact w64_id (by omega) (by omega) | rfl) ?_
          refine wp_lstore (pc' := 173) rfl rfl (Nat.le_of_ble_eq_true rfl) rfl ?_
          dsimp only [lset, lset2, List.set, List.getElem?_cons_zero, List.getElem?_cons_succ]
          refine wp_iinc (pc' := 176) rfl rfl rfl (inc_id (by omega) (by omega)) rfl ?_
          dsimp only [lset, lset2, List.set, List.getElem?_cons_zero, List.getElem?_cons_succ]
          refine wp_goto (pc' := 126) rfl rfl ?_
          refine ih (m + 1) _ _ (by omega) (by omega) ?_
          subst hy
          rw [prodN, ← hc]
          unfold fB
          first
          | (exfalso; omega)
          | (rw [if_neg (show ¬ bit V (m : Int) = 1 by omega)])
          | (rw [if_pos (show bit V (m : Int) = 1 by omega), if_pos (show bit x (m : Int) = 1 by omega)])
          | (rw [if_pos (show bit V (m : Int) = 1 by omega), if_neg (show ¬ bit x (m : Int) = 1 by omega)])
      · skip
        rw [hv1, hw9]
        clear hv1 hw9 v1 w9
        dsimp only [Option.toList, List.cons_append, List.nil_append, List.append_nil]
        refine wp_if_ne (pc' := 146) (pt := 150) rfl rfl rfl (fun q_5 => absurd q_5 (by decide)) (fun q_5 => ?_)
        refine wp_lconst (a := 1) (pc' := 147) rfl rfl rfl ?_
        refine wp_goto (pc' := 170) rfl rfl ?_
        refine wp_lmul (pc' := 171) rfl rfl (by first | exact w64_id (by omega) (by omega) | rfl) ?_
        refine wp_lstore (pc' := 173) rfl rfl (Nat.le_of_ble_eq_true rfl) rfl ?_
        dsimp only [lset, lset2, List.set, List.getElem?_cons_zero, List.getElem?_cons_succ]
        refine wp_iinc (pc' := 176) rfl rfl rfl (inc_id (by omega) (by omega)) rfl ?_
        dsimp only [lset, lset2, List.set, List.getElem?_cons_zero, List.getElem?_cons_succ]
        refine wp_goto (pc' := 126) rfl rfl ?_
        refine ih (m + 1) _ _ (by omega) (by omega) ?_
        subst hy
        rw [prodN, ← hc]
        unfold fB
        first
        | (exfalso; omega)
        | (rw [if_neg (show ¬ bit V (m : Int) = 1 by omega)])
        | (rw [if_pos (show bit V (m : Int) = 1 by omega), if_pos (show bit x (m : Int) = 1 by omega)])
        | (rw [if_pos (show bit V (m : Int) = 1 by omega), if_neg (show ¬ bit x (m : Int) = 1 by omega)])
set_option maxRecDepth 20000 in
set_option maxHeartbeats 4000000 in
theorem l_lp3 {w : Hp} {d v : Nat} {h34 V : Int} {way p : Int} (hT0 : Stc w) (hl : MdOK w) (hx : Cel (w 100 11) (w 100 12) (w 109 0)) (hp : 0 ≤ p ∧ p ≤ 12) (hV : V = v) (hv : v < 64) : ∀ (k m : Nat) (x : Int) (w1 : Hp) (x5 x6 x7 : Option PV), x = m → m + k = v + 1 → SameF w w1 [113] [(100, 34), (100, 35), (100, 36)] → w1 100 34 = h34 → w1 100 35 = sumI (fP V p way (w 100 10) (fVote (w 100 11) (w 100 12) (w 107) (fun i => w 109 (3 + i)) (w 109 0) (w 109 1)) (w 108)) x → w1 100 36 = sumI (fQ V p (w 100 10) (fVote (w 100 11) (w 100 12) (w 107) (fun i => w 109 (3 + i)) (w 109 0) (w 109 1)) (w 108) (fun q => sumI (fWorth (w 100 11) (w 107) (fun i => w 109 (3 + i)) (w 108) (sBeside (w 100 11) (w 100 12) (w 109 0) q)) (w 100 10))) x → WP SH (d + 6) 220 105 [some (vR 100), some (vI way), some (vI p), some (vI V), some (vI x), x5, x6, x7] [] w1 (fun v9 w' => v9 = none ∧ SameF w w' [113] [(100, 34), (100, 35), (100, 36)] ∧ w' 100 34 = h34 ∧ w' 100 35 = sumI (fP V p way (w 100 10) (fVote (w 100 11) (w 100 12) (w 107) (fun i => w 109 (3 + i)) (w 109 0) (w 109 1)) (w 108)) (V + 1) ∧ w' 100 36 = sumI (fQ V p (w 100 10) (fVote (w 100 11) (w 100 12) (w 107) (fun i => w 109 (3 + i)) (w 109 0) (w 109 1)) (w 108) (fun q => sumI (fWorth (w 100 11) (w 107) (fun i => w 109 (3 + i)) (w 108) (sBeside (w 100 11) (w 100 12) (w 109 0) q)) (w 100 10))) (V + 1)) := by
  intro k
  induction k with
  | zero =>
    intro m x w1 x5 x6 x7 hxm hmk hS hh34 h35 h36
    have hT := hT0.sameF hS (by decide)
    have e10 : w1 100 10 = w 100 10 := hS 100 10 (by decide) (by decide)
    have e11 : w1 100 11 = w 100 11 := hS 100 11 (by decide) (by decide)
    have e12 : w1 100 12 = w 100 12 := hS 100 12 (by decide) (by decide)
    have e7 : w1 107 = w 107 := hS.cell 107 (by decide) (by decide)
    have e8 : w1 108 = w 108 := hS.cell 108 (by decide) (by decide)
    have e9 : w1 109 = w 109 := hS.cell 109 (by decide) (by decide)
    have hl1 : MdOK w1 := hl.sameF hS (by decide) (by decide)
    have hx1 : Cel (w1 100 11) (w1 100 12) (w1 109 0) := by rw [e11, e12, e9]; exact hx
    have hn := hl.2.1
    have hgw : ∀ j : Int, 0 ≤ j → j < w 100 10 → 1 ≤ w 108 j ∧ w 108 j ≤ 9 := fun j a b => (hl.2.2 j a b).2.2
    have hwk : ∀ z : Int, sBeside (w 100 11) (w 100 12) (w 109 0) (wnB (w 100 10) (fVote (w 100 11) (w 100 12) (w 107) (fun i => w 109 (3 + i)) (w 109 0) (w 109 1)) (w 108) z) ≠ -1 := fun z => win_ok hx (fun j a b => by
      unfold vOfM fVote
      have h7 := @sVote_in (w 100 11) (w 100 12) (w 107 j) (w 109 (3 + j)) (w 109 0) (w 109 1) hl.1 hx
      rw [bit0 (i := j) ⟨a, by omega⟩, if_neg (show ¬ (0 : Int) = 1 by decide)]
      dsimp only
      split
      · rcases h7 with h7 | h7
        · exact Or.inl h7
        · exact Or.inr h7.2.2
      · exact Or.inl rfl) hgw
    have hwc : ∀ z : Int, Cel (w 100 11) (w 100 12) (sBeside (w 100 11) (w 100 12) (w 109 0) (wnB (w 100 10) (fVote (w 100 11) (w 100 12) (w 107) (fun i => w 109 (3 + i)) (w 109 0) (w 109 1)) (w 108) z)) := fun z => beside_cel hl.1 hx (hwk z)
    have hww : ∀ z : Int, 0 ≤ (fun q => sumI (fWorth (w 100 11) (w 107) (fun i => w 109 (3 + i)) (w 108) (sBeside (w 100 11) (w 100 12) (w 109 0) q)) (w 100 10)) (wnB (w 100 10) (fVote (w 100 11) (w 100 12) (w 107) (fun i => w 109 (3 + i)) (w 109 0) (w 109 1)) (w 108) z) ∧ (fun q => sumI (fWorth (w 100 11) (w 107) (fun i => w 109 (3 + i)) (w 108) (sBeside (w 100 11) (w 100 12) (w 109 0) q)) (w 100 10)) (wnB (w 100 10) (fVote (w 100 11) (w 100 12) (w 107) (fun i => w 109 (3 + i)) (w 109 0) (w 109 1)) (w 108) z) ≤ 972 := fun z => worth_in hl.1 (hwc z) (by omega) hn.2 (fun j a b => (hl.2.2 j a b).2.1) hgw
    have hb5 := @sumI_bd (fP V p way (w 100 10) (fVote (w 100 11) (w 100 12) (w 107) (fun i => w 109 (3 + i)) (w 109 0) (w 109 1)) (w 108)) 0 2985984 x (by omega) (fun z _ _ => fP_in hp hn.2)
    have hb6 := @sumI_bd (fQ V p (w 100 10) (fVote (w 100 11) (w 100 12) (w 107) (fun i => w 109 (3 + i)) (w 109 0) (w 109 1)) (w 108) (fun q => sumI (fWorth (w 100 11) (w 107) (fun i => w 109 (3 + i)) (w 108) (sBeside (w 100 11) (w 100 12) (w 109 0) q)) (w 100 10))) 0 2902376448 x (by omega) (fun z _ _ => fQ_in hp hn.2 (hww z))
    rw [← h35] at hb5
    rw [← h36] at hb6
    refine wp_iload (pc' := 107) rfl rfl rfl ?_
    refine wp_iload_n (pc' := 108) rfl rfl rfl ?_
    refine wp_icmp_gt (pc' := 111) (pt := 261) rfl rfl rfl (fun q_1 => ?_) (fun q_1 => ?_)
    · skip
      refine wp_ret rfl rfl rfl ?_
      obtain rfl : x = V + 1 := by omega
      exact ⟨rfl, hS, hh34, h35, h36⟩
    · skip
      exfalso; omega
  | succ k ih =>
    intro m x w1 x5 x6 x7 hxm hmk hS hh34 h35 h36
    have hT := hT0.sameF hS (by decide)
    have e10 : w1 100 10 = w 100 10 := hS 100 10 (by decide) (by decide)
    have e11 : w1 100 11 = w 100 11 := hS 100 11 (by decide) (by decide)
    have e12 : w1 100 12 = w 100 12 := hS 100 12 (by decide) (by decide)
    have e7 : w1 107 = w 107 := hS.cell 107 (by decide) (by decide)
    have e8 : w1 108 = w 108 := hS.cell 108 (by decide) (by decide)
    have e9 : w1 109 = w 109 := hS.cell 109 (by decide) (by decide)
    have hl1 : MdOK w1 := hl.sameF hS (by decide) (by decide)
    have hx1 : Cel (w1 100 11) (w1 100 12) (w1 109 0) := by rw [e11, e12, e9]; exact hx
    have hn := hl.2.1
    have hgw : ∀ j : Int, 0 ≤ j → j < w 100 10 → 1 ≤ w 108 j ∧ w 108 j ≤ 9 := fun j a b => (hl.2.2 j a b).2.2
    have hwk : ∀ z : Int, sBeside (w 100 11) (w 100 12) (w 109 0) (wnB (w 100 10) (fVote (w 100 11) (w 100 12) (w 107) (fun i => w 109 (3 + i)) (w 109 0) (w 109 1)) (w 108) z) ≠ -1 := fun z => win_ok hx (fun j a b => by
      unfold vOfM fVote
      have h7 := @sVote_in (w 100 11) (w 100 12) (w 107 j) (w 109 (3 + j)) (w 109 0) (w 109 1) hl.1 hx
      rw [bit0 (i := j) ⟨a, by omega⟩, if_neg (show ¬ (0 : Int) = 1 by decide)]
      dsimp only
      split
      · rcases h7 with h7 | h7
        · exact Or.inl h7
        · exact Or.inr h7.2.2
      · exact Or.inl rfl) hgw
    have hwc : ∀ z : Int, Cel (w 100 11) (w 100 12) (sBeside (w 100 11) (w 100 12) (w 109 0) (wnB (w 100 10) (fVote (w 100 11) (w 100 12) (w 107) (fun i => w 109 (3 + i)) (w 109 0) (w 109 1)) (w 108) z)) := fun z => beside_cel hl.1 hx (hwk z)
    have hww : ∀ z : Int, 0 ≤ (fun q => sumI (fWorth (w 100 11) (w 107) (fun i => w 109 (3 + i)) (w 108) (sBeside (w 100 11) (w 100 12) (w 109 0) q)) (w 100 10)) (wnB (w 100 10) (fVote (w 100 11) (w 100 12) (w 107) (fun i => w 109 (3 + i)) (w 109 0) (w 109 1)) (w 108) z) ∧ (fun q => sumI (fWorth (w 100 11) (w 107) (fun i => w 109 (3 + i)) (w 108) (sBeside (w 100 11) (w 100 12) (w 109 0) q)) (w 100 10)) (wnB (w 100 10) (fVote (w 100 11) (w 100 12) (w 107) (fun i => w 109 (3 + i)) (w 109 0) (w 109 1)) (w 108) z) ≤ 972 := fun z => worth_in hl.1 (hwc z) (by omega) hn.2 (fun j a b => (hl.2.2 j a b).2.1) hgw
    have hb5 := @sumI_bd (fP V p way (w 100 10) (fVote (w 100 11) (w 100 12) (w 107) (fun i => w 109 (3 + i)) (w 109 0) (w 109 1)) (w 108)) 0 2985984 x (by omega) (fun z _ _ => fP_in hp hn.2)
    have hb6 := @sumI_bd (fQ V p (w 100 10) (fVote (w 100 11) (w 100 12) (w 107) (fun i => w 109 (3 + i)) (w 109 0) (w 109 1)) (w 108) (fun q => sumI (fWorth (w 100 11) (w 107) (fun i => w 109 (3 + i)) (w 108) (sBeside (w 100 11) (w 100 12) (w 109 0) q)) (w 100 10))) 0 2902376448 x (by omega) (fun z _ _ => fQ_in hp hn.2 (hww z))
    rw [← h35] at hb5
    rw [← h36] at hb6
    refine wp_iload (pc' := 107) rfl rfl rfl ?_
    refine wp_iload_n (pc' := 108) rfl rfl rfl ?_
    refine wp_icmp_gt (pc' := 111) (pt := 261) rfl rfl rfl (fun q_1 => ?_) (fun q_1 => ?_)
    · skip
      exfalso; omega
    · skip
      refine wp_iload (pc' := 113) rfl rfl rfl ?_
      refine wp_iload_n (pc' := 114) rfl rfl rfl ?_
      refine wp_iconst (a := -1) (pc' := 115) rfl rfl rfl ?_
      refine wp_ixor (pc' := 116) rfl rfl rfl ?_
      refine wp_iand (pc' := 117) rfl rfl rfl ?_
      refine wp_if_ne (pc' := 120) (pt := 255) rfl rfl rfl (fun q_2 => ?_) (fun q_2 => ?_)
      · skip
        refine wp_iinc (pc' := 258) rfl rfl rfl (inc_id (by omega) (by omega)) rfl ?_
        dsimp only [lset, lset2, List.set, List.getElem?_cons_zero, List.getElem?_cons_succ]
        refine wp_goto (pc' := 105) rfl rfl ?_
        refine ih (m + 1) _ _ _ _ _ (by omega) (by omega) hS hh34 ?_ ?_
        · rw [sumI_s _ (by omega), ← h35]
          unfold fP
          rw [if_neg (show ¬ iAnd x (iXor V (-1)) = 0 by omega), Int.add_zero]
        · rw [sumI_s _ (by omega), ← h36]
          unfold fQ
          rw [if_neg (show ¬ iAnd x (iXor V (-1)) = 0 by omega), Int.add_zero]
      · skip
        refine wp_lconst (a := 1) (pc' := 121) rfl rfl rfl ?_
        refine wp_lstore (pc' := 123) rfl rfl (Nat.le_of_ble_eq_true rfl) rfl ?_
        dsimp only [lset, lset2, List.set, List.getElem?_cons_zero, List.getElem?_cons_succ]
        refine wp_iconst (a := 0) (pc' := 124) rfl rfl rfl ?_
        refine wp_istore (pc' := 126) rfl rfl (Nat.le_of_ble_eq_true rfl) rfl ?_
        dsimp only [lset, lset2, List.set, List.getElem?_cons_zero, List.getElem?_cons_succ]
        refine l_lp2 hT (by omega) hp (fun y9 => ?_) (w1 100 10).toNat 0 _ _ rfl (by omega) rfl
        rw [e10]
        refine wp_aload_n (pc' := 180) rfl rfl rfl (by decide) ?_
        refine wp_aload_n (pc' := 181) rfl rfl rfl (by decide) ?_
        refine wp_getR (r' := 109) (ci := 10) (k0 := 15) (pc' := 184) rfl rfl (by decide) (by first | assumption | rfl) (hT.get 107 rfl) ?_
        refine wp_iconst (a := 0) (pc' := 185) rfl rfl rfl ?_
        refine wp_iaload (pc' := 186) rfl rfl (by first | assumption | rfl) (by omega) ?_
        refine wp_aload_n (pc' := 187) rfl rfl rfl (by decide) ?_
        refine wp_getR (r' := 109) (ci := 10) (k0 := 15) (pc' := 190) rfl rfl (by decide) (by first | assumption | rfl) (hT.get 107 rfl) ?_
        refine wp_iconst (a := 1) (pc' := 191) rfl rfl rfl ?_
        refine wp_iaload (pc' := 192) rfl rfl (by first | assumption | rfl) (by omega) ?_
        refine wp_iload (pc' := 194) rfl rfl rfl ?_
        refine wp_iconst (a := 0) (pc' := 195) rfl rfl rfl ?_
        refine wp_iconst (a := 0) (pc' := 196) rfl rfl rfl ?_
        refine wp_call (pc' := 199) rfl rfl rfl rfl rfl ⟨Nat.le_of_ble_eq_true rfl, Nat.le_of_ble_eq_true rfl, Nat.le_of_ble_eq_true rfl, Nat.le_of_ble_eq_true rfl, Nat.le_of_ble_eq_true rfl⟩ rfl (c_Mod_layCounts hT hl1 hx1 (by decide)) ?_
        rintro v1 w2 ⟨hv1, hS2, hz2⟩
        rw [hv1]
        clear hv1 v1
        rw [e10, e11, e12, e7, e8, e9] at hz2
        have hT := hT.same hS2 (by decide)
        have f100 : w2 100 = w1 100 := hS2 100 (by decide)
        have f7 : w2 107 = w1 107 := hS2 107 (by decide)
        have f8 : w2 108 = w1 108 := hS2 108 (by decide)
        have f9 : w2 109 = w1 109 := hS2 109 (by decide)
        have hl2 : MdOK w2 := hl1.same hS2 (by decide)
        dsimp only [Option.toList, List.cons_append, List.nil_append, List.append_nil]
        refine wp_aload_n (pc' := 200) rfl rfl rfl (by decide) ?_
        refine wp_call (pc' := 203) rfl rfl rfl rfl rfl ⟨Nat.le_of_ble_eq_true rfl, Nat.le_of_ble_eq_true rfl, Nat.le_of_ble_eq_true rfl, Nat.le_of_ble_eq_true rfl, Nat.le_of_ble_eq_true rfl⟩ rfl (c_Mod_carried hT) ?_
        intro v1 w9 hq1
        rw [hq1.1, hq1.2]
        clear hq1 v1 w9
        have hwe : sWin (w2 113) = wnB (w 100 10) (fVote (w 100 11) (w 100 12) (w 107) (fun i => w 109 (3 + i)) (w 109 0) (w 109 1)) (w 108) x := sWin_congr (fun j a b => hz2 j a (by omega))
        rw [hwe]
        have hwi : 0 ≤ wnB (w 100 10) (fVote (w 100 11) (w 100 12) (w 107) (fun i => w 109 (3 + i)) (w 109 0) (w 109 1)) (w 108) x ∧ wnB (w 100 10) (fVote (w 100 11) (w 100 12) (w 107) (fun i => w 109 (3 + i)) (w 109 0) (w 109 1)) (w 108) x ≤ 4 := sWin_in _
        have hpb := @wtB_in V p x (w 100 10).toNat hp (by omega)
        have hmw := mul_bd hpb.1 hpb.2 (hww x).1 (hww x).2
        dsimp only at hmw
        have hc35 : w2 100 35 = w1 100 35 := by rw [f100]
        have hc36 : w2 100 36 = w1 100 36 := by rw [f100]
        dsimp only [Option.toList, List.cons_append, List.nil_append, List.append_nil]
        refine wp_istore (pc' := 205) rfl rfl (Nat.le_of_ble_eq_true rfl) rfl ?_
        dsimp only [lset, lset2, List.set, List.getElem?_cons_zero, List.getElem?_cons_succ]
        refine wp_aload_n (pc' := 206) rfl rfl rfl (by decide) ?_
        refine wp_dupR (pc' := 207) rfl rfl ?_
        refine wp_getL (ci := 10) (k0 := 35) (pc' := 210) rfl rfl (by decide) (by first | assumption | rfl) ?_
        refine wp_iload (pc' := 212) rfl rfl rfl ?_
        refine wp_iload_n (pc' := 213) rfl rfl rfl ?_
        refine wp_icmp_ne (pc' := 216) (pt := 221) rfl rfl rfl (fun q_23 => ?_) (fun q_23 => ?_)
        · skip
          refine wp_lconst (a := 0) (pc' := 222) rfl rfl rfl ?_
          refine wp_ladd (pc' := 223) rfl rfl (by first | exact w64_id (by omega) (by omega) | rfl) ?_
          refine wp_putL (ci := 10) (k0 := 35) (pc' := 226) rfl rfl (by decide) (by first | assumption | rfl) ?_
          refine wp_stc (hT.putF (by decide)) (fun hT => ?_)
          refine wp_gen (fun w3 hw3 => ?_)
          rw [← hw3] at hT
          have k10 : w3 100 10 = w 100 10 := by rw [hw3, up_at (by decide), f100, e10]
          have k11 : w3 100 11 = w 100 11 := by rw [hw3, up_at (by decide), f100, e11]
          have k12 : w3 100 12 = w 100 12 := by rw [hw3, up_at (by decide), f100, e12]
          have k7 : w3 107 = w 107 := by rw [hw3, up_ne (by decide), f7, e7]
          have k8 : w3 108 = w 108 := by rw [hw3, up_ne (by decide), f8, e8]
          have k9 : w3 109 = w 109 := by rw [hw3, up_ne (by decide), f9, e9]
          have k36 : w3 100 36 = w1 100 36 := by rw [hw3, up_at (by decide), f100]
          have hl3 : MdOK w3 := by
            unfold MdOK
            rw [k10, k11, k12, k7, k8, k9]
            exact hl
          refine wp_aload_n (pc' := 227) rfl rfl rfl (by decide) ?_
          refine wp_dupR (pc' := 228) rfl rfl ?_
          refine wp_getL (ci := 10) (k0 := 36) (pc' := 231) rfl rfl (by decide) (by first | assumption | rfl) ?_
          refine wp_lload (pc' := 233) rfl rfl rfl ?_
          refine wp_aload_n (pc' := 234) rfl rfl rfl (by decide) ?_
          refine wp_aload_n (pc' := 235) rfl rfl rfl (by decide) ?_
          refine wp_aload_n (pc' := 236) rfl rfl rfl (by decide) ?_
          refine wp_getR (r' := 109) (ci := 10) (k0 := 15) (pc' := 239) rfl rfl (by decide) (by first | assumption | rfl) (hT.get 107 rfl) ?_
          refine wp_iconst (a := 0) (pc' := 240) rfl rfl rfl ?_
          refine wp_iaload (pc' := 241) rfl rfl (by first | assumption | rfl) (by omega) ?_
          refine wp_iload (pc' := 243) rfl rfl rfl ?_
          refine wp_call (pc' := 246) rfl rfl rfl rfl rfl ⟨Nat.le_of_ble_eq_true rfl, Nat.le_of_ble_eq_true rfl, Nat.le_of_ble_eq_true rfl, Nat.le_of_ble_eq_true rfl, Nat.le_of_ble_eq_true rfl⟩ rfl (c_Mod_beside hl3.1 hwi (by rw [k11, k12, k9]; exact hx)) ?_
          intro v1 w9 hq1
          rw [hq1.1, hq1.2]
          clear hq1 v1 w9
          rw [k11, k12, k9]
          dsimp only [Option.toList, List.cons_append, List.nil_append, List.append_nil]
          refine wp_call (pc' := 249) rfl rfl rfl rfl rfl ⟨Nat.le_of_ble_eq_true rfl, Nat.le_of_ble_eq_true rfl, Nat.le_of_ble_eq_true rfl, Nat.le_of_ble_eq_true rfl, Nat.le_of_ble_eq_true rfl⟩ rfl (c_Mod_all hl3 hT (by rw [k11, k12]; exact hwc x)) ?_
          intro v1 w9 hq1
          rw [hq1.1, hq1.2]
          clear hq1 v1 w9
          rw [k10, k11, k7, k8, k9]
          dsimp only [Option.toList, List.cons_append, List.nil_append, List.append_nil]
          refine wp_i2l (pc' := 250) rfl rfl ?_
          refine wp_lmul (pc' := 251) rfl rfl (by first | exact w64_id (by omega) (by omega) | rfl) ?_
          refine wp_ladd (pc' := 252) rfl rfl (by first | exact w64_id (by omega) (by omega) | rfl) ?_
          refine wp_putL (ci := 10) (k0 := 36) (pc' := 255) rfl rfl (by decide) (by first | assumption | rfl) ?_
          refine wp_iinc (pc' := 258) rfl rfl rfl (inc_id (by omega) (by omega)) rfl ?_
          dsimp only [lset, lset2, List.set, List.getElem?_cons_zero, List.getElem?_cons_succ]
          refine wp_goto (pc' := 105) rfl rfl ?_
          refine ih (m + 1) _ _ _ _ _ (by omega) (by omega) (SameF.put (by rw [hw3]; exact ((hS.tr ((hS2.F _).mono (by simp) (fun q hq => Or.inl hq))).put (Or.inr (by decide)))) (Or.inr (by decide))) ?_ ?_ ?_
          · rw [up_at (by decide), hw3, up_at (by decide), f100]; exact hh34
          · rw [up_at (by decide), hw3, up_eq, sumI_s _ (by omega), ← h35, hc35]
            unfold fP
            rw [if_pos (show iAnd x (iXor V (-1)) = 0 by omega)]
            first
            | (rw [if_pos (by omega)])
            | (rw [if_neg (by omega)])
          · rw [up_eq, k36, sumI_s _ (by omega), ← h36]
            unfold fQ
            rw [if_pos (show iAnd x (iXor V (-1)) = 0 by omega)]
        · skip
          refine wp_lload (pc' := 218) rfl rfl rfl ?_
          refine wp_goto (pc' := 222) rfl rfl ?_
          refine wp_ladd (pc' := 223) rfl rfl (by first | exact w64_id (by omega) (by omega) | rfl) ?_
          refine wp_putL (ci := 10) (k0 := 35) (pc' := 226) rfl rfl (by decide) (by first | assumption | rfl) ?_
          refine wp_stc (hT.putF (by decide)) (fun hT => ?_)
          refine wp_gen (fun w3 hw3 => ?_)
          rw [← hw3] at hT
          have k10 : w3 100 10 = w 100 10 := by rw [hw3, up_at (by decide), f100, e10]
          have k11 : w3 100 11 = w 100 11 := by rw [hw3, up_at (by decide), f100, e11]
          have k12 : w3 100 12 = w 100 12 := by rw [hw3, up_at (by decide), f100, e12]
          have k7 : w3 107 = w 107 := by rw [hw3, up_ne (by decide), f7, e7]
          have k8 : w3 108 = w 108 := by rw [hw3, up_ne (by decide), f8, e8]
          have k9 : w3 109 = w 109 := by rw [hw3, up_ne (by decide), f9, e9]
          have k36 : w3 100 36 = w1 100 36 := by rw [hw3, up_at (by decide), f100]
          have hl3 : MdOK w3 := by
            unfold MdOK
            rw [k10, k11, k12, k7, k8, k9]
            exact hl
          refine wp_aload_n (pc' := 227) rfl rfl rfl (by decide) ?_
          refine wp_dupR (pc' := 228) rfl rfl ?_
          refine wp_getL (ci := 10) (k0 := 36) (pc' := 231) rfl rfl (by decide) (by first | assumption | rfl) ?_
          refine wp_lload (pc' := 233) rfl rfl rfl ?_
          refine wp_aload_n (pc' := 234) rfl rfl rfl (by decide) ?_
          refine wp_aload_n (pc' := 235) rfl rfl rfl (by decide) ?_
          refine wp_aload_n (pc' := 236) rfl rfl rfl (by decide) ?_
          refine wp_getR (r' := 109) (ci := 10) (k0 := 15) (pc' := 239) rfl rfl (by decide) (by first | assumption | rfl) (hT.get 107 rfl) ?_
          refine wp_iconst (a := 0) (pc' := 240) rfl rfl rfl ?_
          refine wp_iaload (pc' := 241) rfl rfl (by first | assumption | rfl) (by omega) ?_
          refine wp_iload (pc' := 243) rfl rfl rfl ?_
          refine wp_call (pc' := 246) rfl rfl rfl rfl rfl ⟨Nat.le_of_ble_eq_true rfl, Nat.le_of_ble_eq_true rfl, Nat.le_of_ble_eq_true rfl, Nat.le_of_ble_eq_true rfl, Nat.le_of_ble_eq_true rfl⟩ rfl (c_Mod_beside hl3.1 hwi (by rw [k11, k12, k9]; exact hx)) ?_
          intro v1 w9 hq1
          rw [hq1.1, hq1.2]
          clear hq1 v1 w9
          rw [k11, k12, k9]
          dsimp only [Option.toList, List.cons_append, List.nil_append, List.append_nil]
          refine wp_call (pc' := 249) rfl rfl rfl rfl rfl ⟨Nat.le_of_ble_eq_true rfl, Nat.le_of_ble_eq_true rfl, Nat.le_of_ble_eq_true rfl, Nat.le_of_ble_eq_true rfl, Nat.le_of_ble_eq_true rfl⟩ rfl (c_Mod_all hl3 hT (by rw [k11, k12]; exact hwc x)) ?_
          intro v1 w9 hq1
          rw [hq1.1, hq1.2]
          clear hq1 v1 w9
          rw [k10, k11, k7, k8, k9]
          dsimp only [Option.toList, List.cons_append, List.nil_append, List.append_nil]
          refine wp_i2l (pc' := 250) rfl rfl ?_
          refine wp_lmul (pc' := 251) rfl rfl (by first | exact w64_id (by omega) (by omega) | rfl) ?_
          refine wp_ladd (pc' := 252) rfl rfl (by first | exact w64_id (by omega) (by omega) | rfl) ?_
          refine wp_putL (ci := 10) (k0 := 36) (pc' := 255) rfl rfl (by decide) (by first | assumption | rfl) ?_
          refine wp_iinc (pc' := 258) rfl rfl rfl (inc_id (by omega) (by omega)) rfl ?_
          dsimp only [lset, lset2, List.set, List.getElem?_cons_zero, List.getElem?_cons_succ]
          refine wp_goto (pc' := 105) rfl rfl ?_
          refine ih (m + 1) _ _ _ _ _ (by omega) (by omega) (SameF.put (by rw [hw3]; exact ((hS.tr ((hS2.F _).mono (by simp) (fun q hq => Or.inl hq))).put (Or.inr (by decide)))) (Or.inr (by decide))) ?_ ?_ ?_
          · rw [up_at (by decide), hw3, up_at (by decide), f100]; exact hh34
          · rw [up_at (by decide), hw3, up_eq, sumI_s _ (by omega), ← h35, hc35]
            unfold fP
            rw [if_pos (show iAnd x (iXor V (-1)) = 0 by omega)]
            first
            | (rw [if_pos (by omega)])
            | (rw [if_neg (by omega)])
          · rw [up_eq, k36, sumI_s _ (by omega), ← h36]
            unfold fQ
            rw [if_pos (show iAnd x (iXor V (-1)) = 0 by omega)]
