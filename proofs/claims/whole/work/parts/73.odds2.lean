/-! odds, mid: the public calls -/
def FR : List (Int × Int) := FQ ++ [(50, 0), (50, 1), (100, 3), (100, 4)]
theorem Inv.frac {w w' : Hp} (h : Inv w) (hs : SameF w w' LQ FR) (ht : w' 0 14 = w' 100 2) (h3 : w' 50 0 = w' 100 3) (h4 : w' 50 1 = w' 100 4) : Inv w' := by
  obtain ⟨g1, g2, g3, g4, g5, g6, g7, g8⟩ := h
  have hr : ∀ q : Int, (3 ≤ q ∧ q ≤ 11) ∨ (52 ≤ q ∧ q ≤ 99) ∨ (101 ≤ q ∧ q ≤ 103) ∨ (105 ≤ q ∧ q ≤ 109) ∨ (114 ≤ q ∧ q ≤ 118) ∨ (q < 0) ∨ q = 31 → w' q = w q := fun q hq => hs.cell q (by simp [LQ]; omega) (fun z hz => by
    have hz2 : FR.all (fun z => decide (z.1 = 0 ∨ z.1 = 12 ∨ z.1 = 22 ∨ z.1 = 26 ∨ z.1 = 45 ∨ z.1 = 50 ∨ z.1 = 100)) = true := by decide
    have := of_decide_eq_true (List.all_eq_true.mp hz2 z hz)
    omega)
  have hf : ∀ k : Int, k = 0 ∨ k = 10 ∨ k = 11 ∨ k = 12 ∨ k = 23 → w' 100 k = w 100 k := fun k hk => hs 100 k (by decide) (by rcases hk with rfl | rfl | rfl | rfl | rfl <;> decide)
  have hls : LandSame w w' := ⟨fun q a b => hr q (by omega), fun q a b => hr q (by omega), ⟨hf 10 (by omega), hf 11 (by omega), hf 12 (by omega)⟩, hf 23 (by omega), hr 107 (by omega), hr 108 (by omega), hr 109 (by omega), hr 114 (by omega), hr 115 (by omega), hr 116 (by omega), hr 117 (by omega), hr 118 (by omega)⟩
  refine ⟨g1.sameF hs (by decide), ?_, ?_, ht, ?_, ?_, g7.ls hls, g8.ls hls⟩
  · unfold ROw at g2 ⊢
    rw [hr (-3) (by omega), hr (-4) (by omega), hr (-5) (by omega)]
    exact g2
  · obtain ⟨a1, a2, a3, a4, a5⟩ := g3
    refine ⟨?_, ?_, h3, h4, ?_⟩
    · rw [hs 0 13 (by decide) (by decide), hf 0 (by omega)]
      exact a1
    · rw [hr 52 (by omega), hr 101 (by omega)]
      exact a2
    · rw [hr 31 (by omega)]
      exact a5
  · intro q a b
    rw [hr (53 + 2 * q) (by omega), hr (54 + 2 * q) (by omega), hr 102 (by omega), hr 103 (by omega)]
    exact g5 q a b
  · intro q a b
    rw [hr (65 + 2 * q) (by omega), hr (66 + 2 * q) (by omega), hr 105 (by omega), hr 106 (by omega)]
    exact g6 q a b
theorem vwF {w u : Hp} (hI : Inv w) (hn : w 3 2 ≠ 0) (hS : SameF w u LQ FR) : Stc u ∧ MdOK u ∧ u 100 11 = w 3 0 ∧ u 100 12 = w 3 1 ∧ u 100 10 = w 3 2 ∧ u 107 = w 107 ∧ u 108 = w 108 ∧ u 109 = w 109 ∧ Cel (u 100 11) (u 100 12) (u 109 0) := by
  obtain ⟨hn25, b11, b12, b10, hn6, hem, m0, m1, m2, m23, hyr, hdd, hpre⟩ := hI.base
  have hpr := hpre hn
  have f11 : u 100 11 = w 100 11 := hS 100 11 (by decide) (by decide)
  have f12 : u 100 12 = w 100 12 := hS 100 12 (by decide) (by decide)
  have f10 : u 100 10 = w 100 10 := hS 100 10 (by decide) (by decide)
  have f7 : u 107 = w 107 := hS.cell 107 (by decide) (by decide)
  have f8 : u 108 = w 108 := hS.cell 108 (by decide) (by decide)
  have f9 : u 109 = w 109 := hS.cell 109 (by decide) (by decide)
  refine ⟨hI.1.sameF hS (by decide), ?_, f11.trans b11, f12.trans b12, f10.trans b10, f7, f8, f9, ?_⟩
  · unfold MdOK
    rw [f11, f12, f10, f7, f8, f9]
    exact hpr.2.1
  · rw [f11, f12, f9, b11, b12, m0]
    exact hpr.2.2.1
theorem chA {n p s : Int} {C C' : Int → Int} (h : ∀ j : Int, 0 ≤ j → j < n → C j = C' j) : prodN (fA C p s) n.toNat = prodN (fA C' p s) n.toNat := prodN_congr (fun j a b => by unfold fA; rw [h j a (by omega)])
theorem chH {n p : Int} {C C' : Int → Int} (h : ∀ j : Int, 0 ≤ j → j < n → C j = C' j) : prodN (fWh C) n.toNat = prodN (fWh C') n.toNat := prodN_congr (fun j a b => by unfold fWh; rw [h j a (by omega)])
theorem chV {n : Int} {C C' : Int → Int} (h : ∀ j : Int, 0 ≤ j → j < n → C j = C' j) : orN (fVt C) n.toNat = orN (fVt C') n.toNat := orN_congr (fun j a b => by unfold fVt; rw [h j a (by omega)])
theorem chWA {n s : Int} {C C' G G' : Int → Int} (h : ∀ j : Int, 0 ≤ j → j < n → C j = C' j ∧ G j = G' j) : wnA n C G s = wnA n C' G' s := by
  unfold wnA
  congr 1
  funext q
  exact sumI_congr (fun i a b => by unfold fHeap vOf; rw [(h i a b).1, (h i a b).2])
theorem chWB {n s : Int} {C C' G G' : Int → Int} (h : ∀ j : Int, 0 ≤ j → j < n → C j = C' j ∧ G j = G' j) : wnB n C G s = wnB n C' G' s := by
  unfold wnB
  congr 1
  funext q
  exact sumI_congr (fun i a b => by unfold fHeap vOfM; rw [(h i a b).1, (h i a b).2])
theorem ways5 (f g W : Int → Int) (hg : ∀ s : Int, 0 ≤ g s ∧ g s ≤ 4) : ∀ M : Nat, sumN (fun q => sumN (fun s => if g s = q then f s else 0) M * W q) 5 = sumN (fun s => f s * W (g s)) M := by
  intro M
  have h5 : ∀ h : Int → Int, sumN h 5 = h 0 + h 1 + h 2 + h 3 + h 4 := fun h => by
    show (0 : Int) + h 0 + h 1 + h 2 + h 3 + h 4 = _
    omega
  rw [h5]
  induction M with
  | zero => show (0 : Int) * W 0 + 0 * W 1 + 0 * W 2 + 0 * W 3 + 0 * W 4 = 0; omega
  | succ M ih =>
    show (sumN (fun s => if g s = 0 then f s else 0) M + (if g M = 0 then f M else 0)) * W 0 + (sumN (fun s => if g s = 1 then f s else 0) M + (if g M = 1 then f M else 0)) * W 1 + (sumN (fun s => if g s = 2 then f s else 0) M + (if g M = 2 then f M else 0)) * W 2 + (sumN (fun s => if g s = 3 then f s else 0) M + (if g M = 3 then f M else 0)) * W 3 + (sumN (fun s => if g s = 4 then f s else 0) M + (if g M = 4 then f M else 0)) * W 4 = sumN (fun s => f s * W (g s)) M + f M * W (g M)
    rw [← ih, Int.add_mul, Int.add_mul, Int.add_mul, Int.add_mul, Int.add_mul]
    have hgm := hg M
    have hq : g M = 0 ∨ g M = 1 ∨ g M = 2 ∨ g M = 3 ∨ g M = 4 := by omega
    rcases hq with h | h | h | h | h <;> rw [h] <;> simp <;> omega
set_option maxRecDepth 20000 in
set_option maxHeartbeats 4000000 in
theorem p_odds {w : Hp} {d : Nat} {way : Int} {p : Int} (hI : Inv w) : WP SH (d + 9) 113 0 [some (vR 0), some (vI way), some (vI p)] [] w (fun v0 w1 => ∃ a, v0 = some (vI a) ∧ w1 (-2) = w (-2) ∧ WP SH (d + 9) 221 0 [some (vR 100), some (vI way), some (vI p), none] [] w1 (fun v2 w2 => v2 = some (vI a) ∧ w2 (-2) = w1 (-2) ∧ Inv w2)) := by
  obtain ⟨hT, hRO, hIF, hITo, hIR, hIT, hIL, hIK⟩ := id hI
  obtain ⟨hn25, b11, b12, b10, hn6, hem, m0, m1, m2, m23, hyr, hdd, hpre⟩ := hI.base
  have hmm : w 100 11 * w 100 12 = w 3 0 * w 3 1 := by rw [b11, b12]
  refine wp_iload_n (pc' := 1) rfl rfl rfl ?_
  refine wp_call (pc' := 4) rfl rfl rfl rfl rfl ⟨Nat.le_of_ble_eq_true rfl, Nat.le_of_ble_eq_true rfl, Nat.le_of_ble_eq_true rfl, Nat.le_of_ble_eq_true rfl, Nat.le_of_ble_eq_true rfl⟩ rfl (c_VH_isWay) ?_
  rintro v1 w9 ⟨hw9, ⟨hv1, hway⟩ | ⟨hv1, hway⟩⟩
  · skip
    rw [hv1, hw9]
    clear hv1 hw9 v1 w9
    dsimp only [Option.toList, List.cons_append, List.nil_append, List.append_nil]
    refine wp_if_eq (pc' := 7) (pt := 17) rfl rfl rfl (fun q_1 => absurd q_1 (by decide)) (fun q_1 => ?_)
    refine wp_iload_n (pc' := 8) rfl rfl rfl ?_
    refine wp_if_lt (pc' := 11) (pt := 17) rfl rfl rfl (fun q_2 => ?_) (fun q_2 => ?_)
    · skip
      refine wp_iconst (a := -1) (pc' := 18) rfl rfl rfl ?_
      refine wp_ret rfl rfl rfl ?_
      refine ⟨_, rfl, ?_, ?_⟩
      · rfl
      refine wp_aload_n (pc' := 1) rfl rfl rfl (by decide) ?_
      refine wp_iload_n (pc' := 2) rfl rfl rfl ?_
      refine wp_iconst (a := 0) (pc' := 3) rfl rfl rfl ?_
      refine wp_iconst (a := 4) (pc' := 4) rfl rfl rfl ?_
      refine wp_call (pc' := 7) rfl rfl rfl rfl rfl ⟨Nat.le_of_ble_eq_true rfl, Nat.le_of_ble_eq_true rfl, Nat.le_of_ble_eq_true rfl, Nat.le_of_ble_eq_true rfl, Nat.le_of_ble_eq_true rfl⟩ rfl (c_Mod_in) ?_
      rintro v1 w9 ⟨hw9, ⟨hv1, hin⟩ | ⟨hv1, hin⟩⟩
      · skip
        rw [hv1, hw9]
        clear hv1 hw9 v1 w9
        dsimp only [Option.toList, List.cons_append, List.nil_append, List.append_nil]
        refine wp_if_eq (pc' := 10) (pt := 24) rfl rfl rfl (fun q_53 => absurd q_53 (by decide)) (fun q_53 => ?_)
        refine wp_iload_n (pc' := 11) rfl rfl rfl ?_
        refine wp_iconst (a := 0) (pc' := 12) rfl rfl rfl ?_
        refine wp_bipush (a := 12) (pc' := 14) rfl rfl rfl ?_
        refine wp_call (pc' := 17) rfl rfl rfl rfl rfl ⟨Nat.le_of_ble_eq_true rfl, Nat.le_of_ble_eq_true rfl, Nat.le_of_ble_eq_true rfl, Nat.le_of_ble_eq_true rfl, Nat.le_of_ble_eq_true rfl⟩ rfl (c_Mod_in) ?_
        rintro v1 w9 ⟨hw9, ⟨hv1, hin⟩ | ⟨hv1, hin⟩⟩
        · skip
          rw [hv1, hw9]
          clear hv1 hw9 v1 w9
          dsimp only [Option.toList, List.cons_append, List.nil_append, List.append_nil]
          refine wp_if_eq (pc' := 20) (pt := 24) rfl rfl rfl (fun q_54 => absurd q_54 (by decide)) (fun q_54 => ?_)
          refine wp_iconst (a := 1) (pc' := 21) rfl rfl rfl ?_
          refine wp_goto (pc' := 25) rfl rfl ?_
          refine wp_call (pc' := 28) rfl rfl rfl rfl rfl ⟨Nat.le_of_ble_eq_true rfl, Nat.le_of_ble_eq_true rfl, Nat.le_of_ble_eq_true rfl, Nat.le_of_ble_eq_true rfl, Nat.le_of_ble_eq_true rfl⟩ rfl (c_Mod_need (by decide)) ?_
          rintro v1 w9 ⟨hw9, ⟨hv1, hg1⟩ | ⟨hv1, hg1, hg2⟩ | ⟨hv1, hg1, hg2⟩⟩
          · skip
            rw [hv1, hw9]
            clear hv1 hw9 v1 w9
            dsimp only [Option.toList, List.cons_append, List.nil_append, List.append_nil]
            refine wp_istore_n (pc' := 29) rfl rfl (Nat.le_of_ble_eq_true rfl) rfl ?_
            dsimp only [lset, lset2, List.set, List.getElem?_cons_zero, List.getElem?_cons_succ]
            refine wp_iload_n (pc' := 30) rfl rfl rfl ?_
            refine wp_if_ge (pc' := 33) (pt := 35) rfl rfl rfl (fun q_55 => absurd q_55 (by decide)) (fun q_55 => ?_)
            refine wp_iload_n (pc' := 34) rfl rfl rfl ?_
            refine wp_ret rfl rfl rfl ?_
            first
            | (exfalso; omega)
            | exact ⟨rfl, rfl, hI⟩
          · skip
            rw [hv1, hw9]
            clear hv1 hw9 v1 w9
            dsimp only [Option.toList, List.cons_append, List.nil_append, List.append_nil]
            refine wp_istore_n (pc' := 29) rfl rfl (Nat.le_of_ble_eq_true rfl) rfl ?_
            dsimp only [lset, lset2, List.set, List.getElem?_cons_zero, List.getElem?_cons_succ]
            refine wp_iload_n (pc' := 30) rfl rfl rfl ?_
            refine wp_if_ge (pc' := 33) (pt := 35) rfl rfl rfl (fun q_56 => absurd q_56 (by decide)) (fun q_56 => ?_)
            refine wp_iload_n (pc' := 34) rfl rfl rfl ?_
            refine wp_ret rfl rfl rfl ?_
            first
            | (exfalso; omega)
            | exact ⟨rfl, rfl, hI⟩
          · skip
            rw [hv1, hw9]
            clear hv1 hw9 v1 w9
            dsimp only [Option.toList, List.cons_append, List.nil_append, List.append_nil]
            refine wp_istore_n (pc' := 29) rfl rfl (Nat.le_of_ble_eq_true rfl) rfl ?_
            dsimp only [lset, lset2, List.set, List.getElem?_cons_zero, List.getElem?_cons_succ]
            refine wp_iload_n (pc' := 30) rfl rfl rfl ?_
            refine wp_if_ge (pc' := 33) (pt := 35) rfl rfl rfl (fun q_57 => ?_) (fun q_57 => absurd (by decide) q_57)
            exfalso; omega
        · skip
          rw [hv1, hw9]
          clear hv1 hw9 v1 w9
          dsimp only [Option.toList, List.cons_append, List.nil_append, List.append_nil]
          refine wp_if_eq (pc' := 20) (pt := 24) rfl rfl rfl (fun q_58 => ?_) (fun q_58 => absurd (by decide) q_58)
          refine wp_iconst (a := 0) (pc' := 25) rfl rfl rfl ?_
          refine wp_call (pc' := 28) rfl rfl rfl rfl rfl ⟨Nat.le_of_ble_eq_true rfl, Nat.le_of_ble_eq_true rfl, Nat.le_of_ble_eq_true rfl, Nat.le_of_ble_eq_true rfl, Nat.le_of_ble_eq_true rfl⟩ rfl (c_Mod_need (by decide)) ?_
          rintro v1 w9 ⟨hw9, ⟨hv1, hg1⟩ | ⟨hv1, hg1, hg2⟩ | ⟨hv1, hg1, hg2⟩⟩
          · skip
            rw [hv1, hw9]
            clear hv1 hw9 v1 w9
            dsimp only [Option.toList, List.cons_append, List.nil_append, List.append_nil]
            refine wp_istore_n (pc' := 29) rfl rfl (Nat.le_of_ble_eq_true rfl) rfl ?_
            dsimp only [lset, lset2, List.set, List.getElem?_cons_zero, List.getElem?_cons_succ]
            refine wp_iload_n (pc' := 30) rfl rfl rfl ?_
            refine wp_if_ge (pc' := 33) (pt := 35) rfl rfl rfl (fun q_59 => absurd q_59 (by decide)) (fun q_59 => ?_)
            refine wp_iload_n (pc' := 34) rfl rfl rfl ?_
            refine wp_ret rfl rfl rfl ?_
            first
            | (exfalso; omega)
            | exact ⟨rfl, rfl, hI⟩
          · skip
            rw [hv1, hw9]
            clear hv1 hw9 v1 w9
            dsimp only [Option.toList, List.cons_append, List.nil_append, List.append_nil]
            refine wp_istore_n (pc' := 29) rfl rfl (Nat.le_of_ble_eq_true rfl) rfl ?_
            dsimp only [lset, lset2, List.set, List.getElem?_cons_zero, List.getElem?_cons_succ]
            refine wp_iload_n (pc' := 30) rfl rfl rfl ?_
            refine wp_if_ge (pc' := 33) (pt := 35) rfl rfl rfl (fun q_60 => absurd q_60 (by decide)) (fun q_60 => ?_)
            refine wp_iload_n (pc' := 34) rfl rfl rfl ?_
            refine wp_ret rfl rfl rfl ?_
            first
            | (exfalso; omega)
            | exact ⟨rfl, rfl, hI⟩
          · skip
            rw [hv1, hw9]
            clear hv1 hw9 v1 w9
            dsimp only [Option.toList, List.cons_append, List.nil_append, List.append_nil]
            refine wp_istore_n (pc' := 29) rfl rfl (Nat.le_of_ble_eq_true rfl) rfl ?_
            dsimp only [lset, lset2, List.set, List.getElem?_cons_zero, List.getElem?_cons_succ]
            refine wp_iload_n (pc' := 30) rfl rfl rfl ?_
            refine wp_if_ge (pc' := 33) (pt := 35) rfl rfl rfl (fun q_61 => ?_) (fun q_61 => absurd (by decide) q_61)
            exfalso; omega
      · skip
        rw [hv1, hw9]
        clear hv1 hw9 v1 w9
        dsimp only [Option.toList, List.cons_append, List.nil_append, List.append_nil]
        refine wp_if_eq (pc' := 10) (pt := 24) rfl rfl rfl (fun q_62 => ?_) (fun q_62 => absurd (by decide) q_62)
        refine wp_iconst (a := 0) (pc' := 25) rfl rfl rfl ?_
        refine wp_call (pc' := 28) rfl rfl rfl rfl rfl ⟨Nat.le_of_ble_eq_true rfl, Nat.le_of_ble_eq_true rfl, Nat.le_of_ble_eq_true rfl, Nat.le_of_ble_eq_true rfl, Nat.le_of_ble_eq_true rfl⟩ rfl (c_Mod_need (by decide)) ?_
        rintro v1 w9 ⟨hw9, ⟨hv1, hg1⟩ | ⟨hv1, hg1, hg2⟩ | ⟨hv1, hg1, hg2⟩⟩
        · skip
          rw [hv1, hw9]
          clear hv1 hw9 v1 w9
          dsimp only [Option.toList, List.cons_append, List.nil_append, List.append_nil]
          refine wp_istore_n (pc' := 29) rfl rfl (Nat.le_of_ble_eq_true rfl) rfl ?_
          dsimp only [lset, lset2, List.set, List.getElem?_cons_zero, List.getElem?_cons_succ]
          refine wp_iload_n (pc' := 30) rfl rfl rfl ?_
          refine wp_if_ge (pc' := 33) (pt := 35) rfl rfl rfl (fun q_63 => absurd q_63 (by decide)) (fun q_63 => ?_)
          refine wp_iload_n (pc' := 34) rfl rfl rfl ?_
          refine wp_ret rfl rfl rfl ?_
          first
          | (exfalso; omega)
          | exact ⟨rfl, rfl, hI⟩
        · skip
          rw [hv1, hw9]
          clear hv1 hw9 v1 w9
          dsimp only [Option.toList, List.cons_append, List.nil_append, List.append_nil]
          refine wp_istore_n (pc' := 29) rfl rfl (Nat.le_of_ble_eq_true rfl) rfl ?_
          dsimp only [lset, lset2, List.set, List.getElem?_cons_zero, List.getElem?_cons_succ]
          refine wp_iload_n (pc' := 30) rfl rfl rfl ?_
          refine wp_if_ge (pc' := 33) (pt := 35) rfl rfl rfl (fun q_64 => absurd q_64 (by decide)) (fun q_64 => ?_)
          refine wp_iload_n (pc' := 34) rfl rfl rfl ?_
          refine wp_ret rfl rfl rfl ?_
          first
          | (exfalso; omega)
          | exact ⟨rfl, rfl, hI⟩
        · skip
          rw [hv1, hw9]
          clear hv1 hw9 v1 w9
          dsimp only [Option.toList, List.cons_append, List.nil_append, List.append_nil]
          refine wp_istore_n (pc' := 29) rfl rfl (Nat.le_of_ble_eq_true rfl) rfl ?_
          dsimp only [lset, lset2, List.set, List.getElem?_cons_zero, List.getElem?_cons_succ]
          refine wp_iload_n (pc' := 30) rfl rfl rfl ?_
          refine wp_if_ge (pc' := 33) (pt := 35) rfl rfl rfl (fun q_65 => ?_) (fun q_65 => absurd (by decide) q_65)
          exfalso; omega
    · skip
      refine wp_iload_n (pc' := 12) rfl rfl rfl ?_
      refine wp_bipush (a := 12) (pc' := 14) rfl rfl rfl ?_
      refine wp_icmp_le (pc' := 17) (pt := 19) rfl rfl rfl (fun q_66 => ?_) (fun q_66 => ?_)
      · skip
        refine wp_aload_n (pc' := 20) rfl rfl rfl (by decide) ?_
        refine wp_getR (r' := 3) (ci := 9) (k0 := 2) (pc' := 23) rfl rfl (by decide) (by first | assumption | rfl) (hT.get 2 rfl) ?_
        refine wp_call (pc' := 26) rfl rfl rfl rfl rfl ⟨Nat.le_of_ble_eq_true rfl, Nat.le_of_ble_eq_true rfl, Nat.le_of_ble_eq_true rfl, Nat.le_of_ble_eq_true rfl, Nat.le_of_ble_eq_true rfl⟩ rfl (c_Land_isEmpty_3) ?_
        rintro v1 w9 ⟨hw9, ⟨hv1, he⟩ | ⟨hv1, he⟩⟩
        · skip
          rw [hv1, hw9]
          clear hv1 hw9 v1 w9
          dsimp only [Option.toList, List.cons_append, List.nil_append, List.append_nil]
          refine wp_if_eq (pc' := 29) (pt := 32) rfl rfl rfl (fun q_67 => absurd q_67 (by decide)) (fun q_67 => ?_)
          refine wp_bipush (a := -4) (pc' := 31) rfl rfl rfl ?_
          refine wp_ret rfl rfl rfl ?_
          refine ⟨_, rfl, ?_, ?_⟩
          · rfl
          refine wp_aload_n (pc' := 1) rfl rfl rfl (by decide) ?_
          refine wp_iload_n (pc' := 2) rfl rfl rfl ?_
          refine wp_iconst (a := 0) (pc' := 3) rfl rfl rfl ?_
          refine wp_iconst (a := 4) (pc' := 4) rfl rfl rfl ?_
          refine wp_call (pc' := 7) rfl rfl rfl rfl rfl ⟨Nat.le_of_ble_eq_true rfl, Nat.le_of_ble_eq_true rfl, Nat.le_of_ble_eq_true rfl, Nat.le_of_ble_eq_true rfl, Nat.le_of_ble_eq_true rfl⟩ rfl (c_Mod_in) ?_
          rintro v1 w9 ⟨hw9, ⟨hv1, hin⟩ | ⟨hv1, hin⟩⟩
          · skip
            rw [hv1, hw9]
            clear hv1 hw9 v1 w9
            dsimp only [Option.toList, List.cons_append, List.nil_append, List.append_nil]
            refine wp_if_eq (pc' := 10) (pt := 24) rfl rfl rfl (fun q_118 => absurd q_118 (by decide)) (fun q_118 => ?_)
            refine wp_iload_n (pc' := 11) rfl rfl rfl ?_
            refine wp_iconst (a := 0) (pc' := 12) rfl rfl rfl ?_
            refine wp_bipush (a := 12) (pc' := 14) rfl rfl rfl ?_
            refine wp_call (pc' := 17) rfl rfl rfl rfl rfl ⟨Nat.le_of_ble_eq_true rfl, Nat.le_of_ble_eq_true rfl, Nat.le_of_ble_eq_true rfl, Nat.le_of_ble_eq_true rfl, Nat.le_of_ble_eq_true rfl⟩ rfl (c_Mod_in) ?_
            rintro v1 w9 ⟨hw9, ⟨hv1, hin⟩ | ⟨hv1, hin⟩⟩
            · skip
              rw [hv1, hw9]
              clear hv1 hw9 v1 w9
              dsimp only [Option.toList, List.cons_append, List.nil_append, List.append_nil]
              refine wp_if_eq (pc' := 20) (pt := 24) rfl rfl rfl (fun q_119 => absurd q_119 (by decide)) (fun q_119 => ?_)
              refine wp_iconst (a := 1) (pc' := 21) rfl rfl rfl ?_
              refine wp_goto (pc' := 25) rfl rfl ?_
              refine wp_call (pc' := 28) rfl rfl rfl rfl rfl ⟨Nat.le_of_ble_eq_true rfl, Nat.le_of_ble_eq_true rfl, Nat.le_of_ble_eq_true rfl, Nat.le_of_ble_eq_true rfl, Nat.le_of_ble_eq_true rfl⟩ rfl (c_Mod_need (by decide)) ?_
              rintro v1 w9 ⟨hw9, ⟨hv1, hg1⟩ | ⟨hv1, hg1, hg2⟩ | ⟨hv1, hg1, hg2⟩⟩
              · skip
                rw [hv1, hw9]
                clear hv1 hw9 v1 w9
                dsimp only [Option.toList, List.cons_append, List.nil_append, List.append_nil]
                refine wp_istore_n (pc' := 29) rfl rfl (Nat.le_of_ble_eq_true rfl) rfl ?_
                dsimp only [lset, lset2, List.set, List.getElem?_cons_zero, List.getElem?_cons_succ]
                refine wp_iload_n (pc' := 30) rfl rfl rfl ?_
                refine wp_if_ge (pc' := 33) (pt := 35) rfl rfl rfl (fun q_120 => absurd q_120 (by decide)) (fun q_120 => ?_)
                refine wp_iload_n (pc' := 34) rfl rfl rfl ?_
                refine wp_ret rfl rfl rfl ?_
                first
                | (exfalso; omega)
                | exact ⟨rfl, rfl, hI⟩
              · skip
                rw [hv1, hw9]
                clear hv1 hw9 v1 w9
                dsimp only [Option.toList, List.cons_append, List.nil_append, List.append_nil]
                refine wp_istore_n (pc' := 29) rfl rfl (Nat.le_of_ble_eq_true rfl) rfl ?_
                dsimp only [lset, lset2, List.set, List.getElem?_cons_zero, List.getElem?_cons_succ]
                refine wp_iload_n (pc' := 30) rfl rfl rfl ?_
                refine wp_if_ge (pc' := 33) (pt := 35) rfl rfl rfl (fun q_121 => absurd q_121 (by decide)) (fun q_121 => ?_)
                refine wp_iload_n (pc' := 34) rfl rfl rfl ?_
                refine wp_ret rfl rfl rfl ?_
                first
                | (exfalso; omega)
                | exact ⟨rfl, rfl, hI⟩
              · skip
                rw [hv1, hw9]
                clear hv1 hw9 v1 w9
                dsimp only [Option.toList, List.cons_append, List.nil_append, List.append_nil]
                refine wp_istore_n (pc' := 29) rfl rfl (Nat.le_of_ble_eq_true rfl) rfl ?_
                dsimp only [lset, lset2, List.set, List.getElem?_cons_zero, List.getElem?_cons_succ]
                refine wp_iload_n (pc' := 30) rfl rfl rfl ?_
                refine wp_if_ge (pc' := 33) (pt := 35) rfl rfl rfl (fun q_122 => ?_) (fun q_122 => absurd (by decide) q_122)
                exfalso; omega
            · skip
              rw [hv1, hw9]
              clear hv1 hw9 v1 w9
              dsimp only [Option.toList, List.cons_append, List.nil_append, List.append_nil]
              refine wp_if_eq (pc' := 20) (pt := 24) rfl rfl rfl (fun q_123 => ?_) (fun q_123 => absurd (by decide) q_123)
              refine wp_iconst (a := 0) (pc' := 25) rfl rfl rfl ?_
              refine wp_call (pc' := 28) rfl rfl rfl rfl rfl ⟨Nat.le_of_ble_eq_true rfl, Nat.le_of_ble_eq_true rfl, Nat.le_of_ble_eq_true rfl, Nat.le_of_ble_eq_true rfl, Nat.le_of_ble_eq_true rfl⟩ rfl (c_Mod_need (by decide)) ?_
              rintro v1 w9 ⟨hw9, ⟨hv1, hg1⟩ | ⟨hv1, hg1, hg2⟩ | ⟨hv1, hg1, hg2⟩⟩
              · skip
                rw [hv1, hw9]
                clear hv1 hw9 v1 w9
                dsimp only [Option.toList, List.cons_append, List.nil_append, List.append_nil]
                refine wp_istore_n (pc' := 29) rfl rfl (Nat.le_of_ble_eq_true rfl) rfl ?_
                dsimp only [lset, lset2, List.set, List.getElem?_cons_zero, List.getElem?_cons_succ]
                refine wp_iload_n (pc' := 30) rfl rfl rfl ?_
                refine wp_if_ge (pc' := 33) (pt := 35) rfl rfl rfl (fun q_124 => absurd q_124 (by decide)) (fun q_124 => ?_)
                refine wp_iload_n (pc' := 34) rfl rfl rfl ?_
                refine wp_ret rfl rfl rfl ?_
                first
                | (exfalso; omega)
                | exact ⟨rfl, rfl, hI⟩
              · skip
                rw [hv1, hw9]
                clear hv1 hw9 v1 w9
                dsimp only [Option.toList, List.cons_append, List.nil_append, List.append_nil]
                refine wp_istore_n (pc' := 29) rfl rfl (Nat.le_of_ble_eq_true rfl) rfl ?_
                dsimp only [lset, lset2, List.set, List.getElem?_cons_zero, List.getElem?_cons_succ]
                refine wp_iload_n (pc' := 30) rfl rfl rfl ?_
                refine wp_if_ge (pc' := 33) (pt := 35) rfl rfl rfl (fun q_125 => absurd q_125 (by decide)) (fun q_125 => ?_)
                refine wp_iload_n (pc' := 34) rfl rfl rfl ?_
                refine wp_ret rfl rfl rfl ?_
                first
                | (exfalso; omega)
                | exact ⟨rfl, rfl, hI⟩
              · skip
                rw [hv1, hw9]
                clear hv1 hw9 v1 w9
                dsimp only [Option.toList, List.cons_append, List.nil_append, List.append_nil]
                refine wp_istore_n (pc' := 29) rfl rfl (Nat.le_of_ble_eq_true rfl) rfl ?_
                dsimp only [lset, lset2, List.set, List.getElem?_cons_zero, List.getElem?_cons_succ]
                refine wp_iload_n (pc' := 30) rfl rfl rfl ?_
                refine wp_if_ge (pc' := 33) (pt := 35) rfl rfl rfl (fun q_126 => ?_) (fun q_126 => absurd (by decide) q_126)
                exfalso; omega
          · skip
            rw [hv1, hw9]
            clear hv1 hw9 v1 w9
            dsimp only [Option.toList, List.cons_append, List.nil_append, List.append_nil]
            refine wp_if_eq (pc' := 10) (pt := 24) rfl rfl rfl (fun q_127 => ?_) (fun q_127 => absurd (by decide) q_127)
            refine wp_iconst (a := 0) (pc' := 25) rfl rfl rfl ?_
            refine wp_call (pc' := 28) rfl rfl rfl rfl rfl ⟨Nat.le_of_ble_eq_true rfl, Nat.le_of_ble_eq_true rfl, Nat.le_of_ble_eq_true rfl, Nat.le_of_ble_eq_true rfl, Nat.le_of_ble_eq_true rfl⟩ rfl (c_Mod_need (by decide)) ?_
            rintro v1 w9 ⟨hw9, ⟨hv1, hg1⟩ | ⟨hv1, hg1, hg2⟩ | ⟨hv1, hg1, hg2⟩⟩
            · skip
              rw [hv1, hw9]
              clear hv1 hw9 v1 w9
              dsimp only [Option.toList, List.cons_append, List.nil_append, List.append_nil]
              refine wp_istore_n (pc' := 29) rfl rfl (Nat.le_of_ble_eq_true rfl) rfl ?_
              dsimp only [lset, lset2, List.set, List.getElem?_cons_zero, List.getElem?_cons_succ]
              refine wp_iload_n (pc' := 30) rfl rfl rfl ?_
              refine wp_if_ge (pc' := 33) (pt := 35) rfl rfl rfl (fun q_128 => absurd q_128 (by decide)) (fun q_128 => ?_)
              refine wp_iload_n (pc' := 34) rfl rfl rfl ?_
              refine wp_ret rfl rfl rfl ?_
              first
              | (exfalso; omega)
              | exact ⟨rfl, rfl, hI⟩
            · skip
              rw [hv1, hw9]
              clear hv1 hw9 v1 w9
              dsimp only [Option.toList, List.cons_append, List.nil_append, List.append_nil]
              refine wp_istore_n (pc' := 29) rfl rfl (Nat.le_of_ble_eq_true rfl) rfl ?_
              dsimp only [lset, lset2, List.set, List.getElem?_cons_zero, List.getElem?_cons_succ]
              refine wp_iload_n (pc' := 30) rfl rfl rfl ?_
              refine wp_if_ge (pc' := 33) (pt := 35) rfl rfl rfl (fun q_129 => absurd q_129 (by decide)) (fun q_129 => ?_)
              refine wp_iload_n (pc' := 34) rfl rfl rfl ?_
              refine wp_ret rfl rfl rfl ?_
              first
              | (exfalso; omega)
              | exact ⟨rfl, rfl, hI⟩
            · skip
              rw [hv1, hw9]
              clear hv1 hw9 v1 w9
              dsimp only [Option.toList, List.cons_append, List.nil_append, List.append_nil]
              refine wp_istore_n (pc' := 29) rfl rfl (Nat.le_of_ble_eq_true rfl) rfl ?_
              dsimp only [lset, lset2, List.set, List.getElem?_cons_zero, List.getElem?_cons_succ]
              refine wp_iload_n (pc' := 30) rfl rfl rfl ?_
              refine wp_if_ge (pc' := 33) (pt := 35) rfl rfl rfl (fun q_130 => ?_) (fun q_130 => absurd (by decide) q_130)
              exfalso; omega
        · skip
          rw [hv1, hw9]
          clear hv1 hw9 v1 w9
          have hpr := hpre (by omega)
          have hn0 : w 3 2 ≠ 0 := by omega
          dsimp only [Option.toList, List.cons_append, List.nil_append, List.append_nil]
          refine wp_if_eq (pc' := 29) (pt := 32) rfl rfl rfl (fun q_131 => ?_) (fun q_131 => absurd (by decide) q_131)
          refine wp_aload_n (pc' := 33) rfl rfl rfl (by decide) ?_
          refine wp_getR (r' := 23) (ci := 9) (k0 := 6) (pc' := 36) rfl rfl (by decide) (by first | assumption | rfl) (hT.get 6 rfl) ?_
          refine wp_aload_n (pc' := 37) rfl rfl rfl (by decide) ?_
          refine wp_getR (r' := 3) (ci := 9) (k0 := 2) (pc' := 40) rfl rfl (by decide) (by first | assumption | rfl) (hT.get 2 rfl) ?_
          refine wp_aload_n (pc' := 41) rfl rfl rfl (by decide) ?_
          refine wp_getR (r' := 3) (ci := 9) (k0 := 2) (pc' := 44) rfl rfl (by decide) (by first | assumption | rfl) (hT.get 2 rfl) ?_
          refine wp_getI (ci := 3) (k0 := 3) (pc' := 47) rfl rfl (by decide) (by first | assumption | rfl) ?_
          refine wp_aload_n (pc' := 48) rfl rfl rfl (by decide) ?_
          refine wp_getR (r' := 3) (ci := 9) (k0 := 2) (pc' := 51) rfl rfl (by decide) (by first | assumption | rfl) (hT.get 2 rfl) ?_
          refine wp_getI (ci := 3) (k0 := 4) (pc' := 54) rfl rfl (by decide) (by first | assumption | rfl) ?_
          refine wp_call (pc' := 57) rfl rfl rfl rfl rfl ⟨Nat.le_of_ble_eq_true rfl, Nat.le_of_ble_eq_true rfl, Nat.le_of_ble_eq_true rfl, Nat.le_of_ble_eq_true rfl, Nat.le_of_ble_eq_true rfl⟩ rfl (c_Ballot_hold hT hRO hpr.1 hpr.2.2.1) ?_
          rintro v1 w1 ⟨hv1, hS1, hc1, hz1⟩
          rw [hv1]
          clear hv1 v1
          have hQ1 : SameF w w1 LQ FQ := qry (hS1.F []) (by decide) (by decide)
          obtain ⟨hT, hr1, hl1, hm1, e31, e41, e51, e61, g111, g121, g101, g71, g81, g91, hx1⟩ := vw hI hn0 hQ1
          dsimp only [Option.toList, List.cons_append, List.nil_append, List.append_nil]
          refine wp_aload_n (pc' := 58) rfl rfl rfl (by decide) ?_
          refine wp_getR (r' := 50) (ci := 9) (k0 := 11) (pc' := 61) rfl rfl (by decide) (by first | assumption | rfl) (hT.get 11 rfl) ?_
          refine wp_aload_n (pc' := 62) rfl rfl rfl (by decide) ?_
          refine wp_getR (r' := 3) (ci := 9) (k0 := 2) (pc' := 65) rfl rfl (by decide) (by first | assumption | rfl) (hT.get 2 rfl) ?_
          refine wp_aload_n (pc' := 66) rfl rfl rfl (by decide) ?_
          refine wp_getR (r' := 23) (ci := 9) (k0 := 6) (pc' := 69) rfl rfl (by decide) (by first | assumption | rfl) (hT.get 6 rfl) ?_
          refine wp_iload_n (pc' := 70) rfl rfl rfl ?_
          refine wp_call (pc' := 73) rfl rfl rfl rfl rfl ⟨Nat.le_of_ble_eq_true rfl, Nat.le_of_ble_eq_true rfl, Nat.le_of_ble_eq_true rfl, Nat.le_of_ble_eq_true rfl, Nat.le_of_ble_eq_true rfl⟩ rfl (c_Chance_weigh hT hl1.2.1 (fun j a b => (hl1.2.2 j a b).2.2) (by omega)) ?_
          rintro v1 w2 ⟨hv1, hS2, hz2, h503⟩
          rw [hv1]
          clear hv1 v1
          rw [e31, e61] at hz2
          rw [e31] at h503
          have hn6b := hpr.1.2.1
          have hgw : ∀ j : Int, 0 ≤ j → j < w 3 2 → 1 ≤ w 6 j ∧ w 6 j ≤ 9 := fun j a b => (hpr.1.2.2 j a b).2.2
          have hz : ∀ j : Int, 0 ≤ j → j < 5 → w2 51 j = sumI (fun s => if wnA (w 3 2) (fVote (w 3 0) (w 3 1) (w 4) (w 5) (w 3 3) (w 3 4)) (w 6) s = j then prodN (fA (fVote (w 3 0) (w 3 1) (w 4) (w 5) (w 3 3) (w 3 4)) p s) (w 3 2).toNat else 0) (iShl 1 (w 3 2)) := fun j a b => by
            rw [hz2 j a b]
            exact sumI_congr (fun s _ _ => by (try dsimp only); rw [chA (p := p) (s := s) hc1, chWA (s := s) (G' := w 6) (fun q c e => ⟨hc1 q c e, rfl⟩)])
          have hall : w2 50 3 = prodN (fWh (fVote (w 3 0) (w 3 1) (w 4) (w 5) (w 3 3) (w 3 4))) (w 3 2).toNat := by
            rw [h503, sumI_congr (g := fun s => prodN (fA (fVote (w 3 0) (w 3 1) (w 4) (w 5) (w 3 3) (w 3 4)) p s) (w 3 2).toNat) (fun s _ _ => chA (p := p) (s := s) hc1)]
            exact sum_all hn6b
          have hpos := fWh_pos (fVote (w 3 0) (w 3 1) (w 4) (w 5) (w 3 3) (w 3 4)) (w 3 2).toNat (by omega)
          rw [← hall] at hpos
          have hsh := shl1 hn6b
          have hbz : ∀ j : Int, 0 ≤ j → j < 5 → 0 ≤ w2 51 j ∧ w2 51 j ≤ 191102976 := fun j a b => by
            rw [hz j a b]
            have := @sumI_bd (fun s => if wnA (w 3 2) (fVote (w 3 0) (w 3 1) (w 4) (w 5) (w 3 3) (w 3 4)) (w 6) s = j then prodN (fA (fVote (w 3 0) (w 3 1) (w 4) (w 5) (w 3 3) (w 3 4)) p s) (w 3 2).toNat else 0) 0 2985984 (iShl 1 (w 3 2)) (by omega) (fun s _ _ => by
              have := @wtA_in (fVote (w 3 0) (w 3 1) (w 4) (w 5) (w 3 3) (w 3 4)) p s (w 3 2).toNat (by omega) (by omega)
              try dsimp only
              split <;> omega)
            omega
          have hQ2 : SameF w w2 LQ FQ := hQ1.tr (qry hS2 (by decide) (by decide))
          obtain ⟨hT, hr2, hl2, hm2, e32, e42, e52, e62, g112, g122, g102, g72, g82, g92, hx2⟩ := vw hI hn0 hQ2
          have hbw := hbz way (by omega) (by omega)
          dsimp only [Option.toList, List.cons_append, List.nil_append, List.append_nil]
          refine wp_aload_n (pc' := 74) rfl rfl rfl (by decide) ?_
          refine wp_getR (r' := 50) (ci := 9) (k0 := 11) (pc' := 77) rfl rfl (by decide) (by first | assumption | rfl) (hT.get 11 rfl) ?_
          refine wp_aload_n (pc' := 78) rfl rfl rfl (by decide) ?_
          refine wp_getR (r' := 50) (ci := 9) (k0 := 11) (pc' := 81) rfl rfl (by decide) (by first | assumption | rfl) (hT.get 11 rfl) ?_
          refine wp_getR (r' := 51) (ci := 1) (k0 := 2) (pc' := 84) rfl rfl (by decide) (by first | assumption | rfl) (hT.get 64 rfl) ?_
          refine wp_iload_n (pc' := 85) rfl rfl rfl ?_
          refine wp_laload (pc' := 86) rfl rfl (by first | assumption | rfl) (by omega) ?_
          refine wp_call (pc' := 89) rfl rfl rfl rfl rfl ⟨Nat.le_of_ble_eq_true rfl, Nat.le_of_ble_eq_true rfl, Nat.le_of_ble_eq_true rfl, Nat.le_of_ble_eq_true rfl, Nat.le_of_ble_eq_true rfl⟩ rfl (c_Chance_tell (by omega) hpos) ?_
          rintro v1 w3 ⟨hv1, hw3⟩
          rw [hv1]
          clear hv1 v1
          dsimp only [Option.toList, List.cons_append, List.nil_append, List.append_nil]
          refine wp_iconst (a := 1) (pc' := 90) rfl rfl rfl ?_
          refine wp_ret rfl rfl rfl ?_
          refine ⟨_, rfl, ?_, ?_⟩
          · rw [hw3, up_ne (by decide), up_ne (by decide)]; exact hQ2.cell (-2) (by decide) (by decide)
          have hR3 : SameF w w3 LQ FR := by
            rw [hw3]
            exact ((hQ2.mono (fun r hr => hr) (fun q hq => Or.inl (by unfold FR; exact List.mem_append.2 (Or.inl hq)))).put (Or.inr (by decide))).put (Or.inr (by decide))
          obtain ⟨hT, hm3, g113, g123, g103, g73, g83, g93, hx3⟩ := vwF hI hn0 hR3
          have hcC : ∀ j : Int, 0 ≤ j → j < w 3 2 → fVote (w 3 0) (w 3 1) (w 107) (fun i => w 109 (3 + i)) (w 3 3) (w 3 4) j = (fVote (w 3 0) (w 3 1) (w 4) (w 5) (w 3 3) (w 3 4)) j := fun j a b => fVote_congr (K := w 107) (H := fun i => w 109 (3 + i)) (hpr.2.2.2.2 j a b).1 (hpr.2.2.2.2 j a b).2.1
          refine wp_aload_n (pc' := 1) rfl rfl rfl (by decide) ?_
          refine wp_iload_n (pc' := 2) rfl rfl rfl ?_
          refine wp_iconst (a := 0) (pc' := 3) rfl rfl rfl ?_
          refine wp_iconst (a := 4) (pc' := 4) rfl rfl rfl ?_
          refine wp_call (pc' := 7) rfl rfl rfl rfl rfl ⟨Nat.le_of_ble_eq_true rfl, Nat.le_of_ble_eq_true rfl, Nat.le_of_ble_eq_true rfl, Nat.le_of_ble_eq_true rfl, Nat.le_of_ble_eq_true rfl⟩ rfl (c_Mod_in) ?_
          rintro v1 w9 ⟨hw9, ⟨hv1, hin⟩ | ⟨hv1, hin⟩⟩
          · skip
            rw [hv1, hw9]
            clear hv1 hw9 v1 w9
            dsimp only [Option.toList, List.cons_append, List.nil_append, List.append_nil]
            refine wp_if_eq (pc' := 10) (pt := 24) rfl rfl rfl (fun q_182 => absurd q_182 (by decide)) (fun q_182 => ?_)
            refine wp_iload_n (pc' := 11) rfl rfl rfl ?_
            refine wp_iconst (a := 0) (pc' := 12) rfl rfl rfl ?_
            refine wp_bipush (a := 12) (pc' := 14) rfl rfl rfl ?_
            refine wp_call (pc' := 17) rfl rfl rfl rfl rfl ⟨Nat.le_of_ble_eq_true rfl, Nat.le_of_ble_eq_true rfl, Nat.le_of_ble_eq_true rfl, Nat.le_of_ble_eq_true rfl, Nat.le_of_ble_eq_true rfl⟩ rfl (c_Mod_in) ?_
            rintro v1 w9 ⟨hw9, ⟨hv1, hin⟩ | ⟨hv1, hin⟩⟩
            · skip
              rw [hv1, hw9]
              clear hv1 hw9 v1 w9
              dsimp only [Option.toList, List.cons_append, List.nil_append, List.append_nil]
              refine wp_if_eq (pc' := 20) (pt := 24) rfl rfl rfl (fun q_183 => absurd q_183 (by decide)) (fun q_183 => ?_)
              refine wp_iconst (a := 1) (pc' := 21) rfl rfl rfl ?_
              refine wp_goto (pc' := 25) rfl rfl ?_
              refine wp_call (pc' := 28) rfl rfl rfl rfl rfl ⟨Nat.le_of_ble_eq_true rfl, Nat.le_of_ble_eq_true rfl, Nat.le_of_ble_eq_true rfl, Nat.le_of_ble_eq_true rfl, Nat.le_of_ble_eq_true rfl⟩ rfl (c_Mod_need (by decide)) ?_
              rintro v1 w9 ⟨hw9, ⟨hv1, hg1⟩ | ⟨hv1, hg1, hg2⟩ | ⟨hv1, hg1, hg2⟩⟩
              · skip
                rw [hv1, hw9]
                clear hv1 hw9 v1 w9
                dsimp only [Option.toList, List.cons_append, List.nil_append, List.append_nil]
                refine wp_istore_n (pc' := 29) rfl rfl (Nat.le_of_ble_eq_true rfl) rfl ?_
                dsimp only [lset, lset2, List.set, List.getElem?_cons_zero, List.getElem?_cons_succ]
                refine wp_iload_n (pc' := 30) rfl rfl rfl ?_
                refine wp_if_ge (pc' := 33) (pt := 35) rfl rfl rfl (fun q_184 => absurd q_184 (by decide)) (fun q_184 => ?_)
                refine wp_iload_n (pc' := 34) rfl rfl rfl ?_
                refine wp_ret rfl rfl rfl ?_
                first
                | (exfalso; omega)
                | exact ⟨rfl, rfl, hI⟩
              · skip
                rw [hv1, hw9]
                clear hv1 hw9 v1 w9
                dsimp only [Option.toList, List.cons_append, List.nil_append, List.append_nil]
                refine wp_istore_n (pc' := 29) rfl rfl (Nat.le_of_ble_eq_true rfl) rfl ?_
                dsimp only [lset, lset2, List.set, List.getElem?_cons_zero, List.getElem?_cons_succ]
                refine wp_iload_n (pc' := 30) rfl rfl rfl ?_
                refine wp_if_ge (pc' := 33) (pt := 35) rfl rfl rfl (fun q_185 => absurd q_185 (by decide)) (fun q_185 => ?_)
                refine wp_iload_n (pc' := 34) rfl rfl rfl ?_
                refine wp_ret rfl rfl rfl ?_
                first
                | (exfalso; omega)
                | exact ⟨rfl, rfl, hI⟩
              · skip
                rw [hv1, hw9]
                clear hv1 hw9 v1 w9
                dsimp only [Option.toList, List.cons_append, List.nil_append, List.append_nil]
                refine wp_istore_n (pc' := 29) rfl rfl (Nat.le_of_ble_eq_true rfl) rfl ?_
                dsimp only [lset, lset2, List.set, List.getElem?_cons_zero, List.getElem?_cons_succ]
                refine wp_iload_n (pc' := 30) rfl rfl rfl ?_
                refine wp_if_ge (pc' := 33) (pt := 35) rfl rfl rfl (fun q_186 => ?_) (fun q_186 => absurd (by decide) q_186)
                refine wp_aload_n (pc' := 36) rfl rfl rfl (by decide) ?_
                refine wp_iload_n (pc' := 37) rfl rfl rfl ?_
                refine wp_iload_n (pc' := 38) rfl rfl rfl ?_
                refine wp_call (pc' := 41) rfl rfl rfl rfl rfl ⟨Nat.le_of_ble_eq_true rfl, Nat.le_of_ble_eq_true rfl, Nat.le_of_ble_eq_true rfl, Nat.le_of_ble_eq_true rfl, Nat.le_of_ble_eq_true rfl⟩ rfl (c_Mod_layParts hT hm3 hx3 (by omega)) ?_
                rintro v1 w4 ⟨hv1, hS4, h434, h435, h436⟩
                rw [hv1]
                clear hv1 v1
                have hR4 : SameF w w4 LQ FR := hR3.tr (hS4.mono (fun r hr => by simp at hr; rw [hr]; decide) (fun q hq => Or.inl (by simp at hq; rcases hq with rfl | rfl | rfl <;> decide)))
                rw [g103, g113, g123, g73, g93, m0, m1, chH (p := p) hcC, ← hall] at h434
                have hu5 : w4 100 35 = w2 51 way := by
                  have hs := sum_sets (C := (fVote (w 3 0) (w 3 1) (w 4) (w 5) (w 3 3) (w 3 4))) (G := w 6) (p := p) hn6b (fun a g => if g = way then a else 0) (fun a => by (try dsimp only); split <;> rfl)
                  rw [hz way (by omega) (by omega), hs, h435, g103, g113, g123, g73, g83, g93, m0, m1, chV hcC]
                  refine sumI_congr (fun x _ _ => ?_)
                  unfold fP
                  rw [chWB (s := x) (fun j a b => ⟨hcC j a b, (hpr.2.2.2.2 j a b).2.2⟩)]
                dsimp only [Option.toList, List.cons_append, List.nil_append, List.append_nil]
                refine wp_aload_n (pc' := 42) rfl rfl rfl (by decide) ?_
                refine wp_aload_n (pc' := 43) rfl rfl rfl (by decide) ?_
                refine wp_getL (ci := 10) (k0 := 35) (pc' := 46) rfl rfl (by decide) (by first | assumption | rfl) ?_
                refine wp_aload_n (pc' := 47) rfl rfl rfl (by decide) ?_
                refine wp_getL (ci := 10) (k0 := 34) (pc' := 50) rfl rfl (by decide) (by first | assumption | rfl) ?_
                refine wp_call (pc' := 53) rfl rfl rfl rfl rfl ⟨Nat.le_of_ble_eq_true rfl, Nat.le_of_ble_eq_true rfl, Nat.le_of_ble_eq_true rfl, Nat.le_of_ble_eq_true rfl, Nat.le_of_ble_eq_true rfl⟩ rfl (c_Mod_fraction (by rw [hu5, h434]; omega)) ?_
                rintro v1 w5 ⟨hv1, hw5⟩
                rw [hv1]
                clear hv1 v1
                dsimp only [Option.toList, List.cons_append, List.nil_append, List.append_nil]
                refine wp_ret rfl rfl rfl ?_
                refine ⟨rfl, ?_, hI.frac (w' := w5) ?_ ?_ ?_ ?_⟩
                · rw [hw5, up_ne (by decide), up_ne (by decide)]
                  exact hS4.cell (-2) (by decide) (by decide)
                · rw [hw5]
                  exact (hR4.put (Or.inr (by decide))).put (Or.inr (by decide))
                · rw [hw5, up_ne (by decide), up_ne (by decide), up_at (by decide), up_at (by decide), hS4.cell 0 (by decide) (by decide), hS4 100 2 (by decide) (by decide), hw3, up_ne (show (0 : Int) ≠ 50 by decide), up_ne (show (0 : Int) ≠ 50 by decide), up_ne (show (100 : Int) ≠ 50 by decide), up_ne (show (100 : Int) ≠ 50 by decide), hS2.cell 0 (by decide) (by decide), hS2.cell 100 (by decide) (by decide), hS1 0 (by decide), hS1 100 (by decide)]
                  exact hITo
                · rw [hw5, up_ne (by decide), up_ne (by decide), up_at (by decide), up_eq, hS4.cell 50 (by decide) (by decide), hw3, up_at (by decide), up_eq, hu5, h434]
                · rw [hw5, up_ne (by decide), up_ne (by decide), up_eq, hS4.cell 50 (by decide) (by decide), hw3, up_eq, hu5, h434]
            · skip
              rw [hv1, hw9]
              clear hv1 hw9 v1 w9
              dsimp only [Option.toList, List.cons_append, List.nil_append, List.append_nil]
              refine wp_if_eq (pc' := 20) (pt := 24) rfl rfl rfl (fun q_187 => ?_) (fun q_187 => absurd (by decide) q_187)
              refine wp_iconst (a := 0) (pc' := 25) rfl rfl rfl ?_
              refine wp_call (pc' := 28) rfl rfl rfl rfl rfl ⟨Nat.le_of_ble_eq_true rfl, Nat.le_of_ble_eq_true rfl, Nat.le_of_ble_eq_true rfl, Nat.le_of_ble_eq_true rfl, Nat.le_of_ble_eq_true rfl⟩ rfl (c_Mod_need (by decide)) ?_
              rintro v1 w9 ⟨hw9, ⟨hv1, hg1⟩ | ⟨hv1, hg1, hg2⟩ | ⟨hv1, hg1, hg2⟩⟩
              · skip
                rw [hv1, hw9]
                clear hv1 hw9 v1 w9
                dsimp only [Option.toList, List.cons_append, List.nil_append, List.append_nil]
                refine wp_istore_n (pc' := 29) rfl rfl (Nat.le_of_ble_eq_true rfl) rfl ?_
                dsimp only [lset, lset2, List.set, List.getElem?_cons_zero, List.getElem?_cons_succ]
                refine wp_iload_n (pc' := 30) rfl rfl rfl ?_
                refine wp_if_ge (pc' := 33) (pt := 35) rfl rfl rfl (fun q_188 => absurd q_188 (by decide)) (fun q_188 => ?_)
                refine wp_iload_n (pc' := 34) rfl rfl rfl ?_
                refine wp_ret rfl rfl rfl ?_
                first
                | (exfalso; omega)
                | exact ⟨rfl, rfl, hI⟩
              · skip
                rw [hv1, hw9]
                clear hv1 hw9 v1 w9
                dsimp only [Option.toList, List.cons_append, List.nil_append, List.append_nil]
                refine wp_istore_n (pc' := 29) rfl rfl (Nat.le_of_ble_eq_true rfl) rfl ?_
                dsimp only [lset, lset2, List.set, List.getElem?_cons_zero, List.getElem?_cons_succ]
                refine wp_iload_n (pc' := 30) rfl rfl rfl ?_
                refine wp_if_ge (pc' := 33) (pt := 35) rfl rfl rfl (fun q_189 => absurd q_189 (by decide)) (fun q_189 => ?_)
                refine wp_iload_n (pc' := 34) rfl rfl rfl ?_
                refine wp_ret rfl rfl rfl ?_
                first
                | (exfalso; omega)
                | exact ⟨rfl, rfl, hI⟩
              · skip
                rw [hv1, hw9]
                clear hv1 hw9 v1 w9
                dsimp only [Option.toList, List.cons_append, List.nil_append, List.append_nil]
                refine wp_istore_n (pc' := 29) rfl rfl (Nat.le_of_ble_eq_true rfl) rfl ?_
                dsimp only [lset, lset2, List.set, List.getElem?_cons_zero, List.getElem?_cons_succ]
                refine wp_iload_n (pc' := 30) rfl rfl rfl ?_
                refine wp_if_ge (pc' := 33) (pt := 35) rfl rfl rfl (fun q_190 => ?_) (fun q_190 => absurd (by decide) q_190)
                refine wp_aload_n (pc' := 36) rfl rfl rfl (by decide) ?_
                refine wp_iload_n (pc' := 37) rfl rfl rfl ?_
                refine wp_iload_n (pc' := 38) rfl rfl rfl ?_
                refine wp_call (pc' := 41) rfl rfl rfl rfl rfl ⟨Nat.le_of_ble_eq_true rfl, Nat.le_of_ble_eq_true rfl, Nat.le_of_ble_eq_true rfl, Nat.le_of_ble_eq_true rfl, Nat.le_of_ble_eq_true rfl⟩ rfl (c_Mod_layParts hT hm3 hx3 (by omega)) ?_
                rintro v1 w4 ⟨hv1, hS4, h434, h435, h436⟩
                rw [hv1]
                clear hv1 v1
                have hR4 : SameF w w4 LQ FR := hR3.tr (hS4.mono (fun r hr => by simp at hr; rw [hr]; decide) (fun q hq => Or.inl (by simp at hq; rcases hq with rfl | rfl | rfl <;> decide)))
                rw [g103, g113, g123, g73, g93, m0, m1, chH (p := p) hcC, ← hall] at h434
                have hu5 : w4 100 35 = w2 51 way := by
                  have hs := sum_sets (C := (fVote (w 3 0) (w 3 1) (w 4) (w 5) (w 3 3) (w 3 4))) (G := w 6) (p := p) hn6b (fun a g => if g = way then a else 0) (fun a => by (try dsimp only); split <;> rfl)
                  rw [hz way (by omega) (by omega), hs, h435, g103, g113, g123, g73, g83, g93, m0, m1, chV hcC]
                  refine sumI_congr (fun x _ _ => ?_)
                  unfold fP
                  rw [chWB (s := x) (fun j a b => ⟨hcC j a b, (hpr.2.2.2.2 j a b).2.2⟩)]
                dsimp only [Option.toList, List.cons_append, List.nil_append, List.append_nil]
                refine wp_aload_n (pc' := 42) rfl rfl rfl (by decide) ?_
                refine wp_aload_n (pc' := 43) rfl rfl rfl (by decide) ?_
                refine wp_getL (ci := 10) (k0 := 35) (pc' := 46) rfl rfl (by decide) (by first | assumption | rfl) ?_
                refine wp_aload_n (pc' := 47) rfl rfl rfl (by decide) ?_
                refine wp_getL (ci := 10) (k0 := 34) (pc' := 50) rfl rfl (by decide) (by first | assumption | rfl) ?_
                refine wp_call (pc' := 53) rfl rfl rfl rfl rfl ⟨Nat.le_of_ble_eq_true rfl, Nat.le_of_ble_eq_true rfl, Nat.le_of_ble_eq_true rfl, Nat.le_of_ble_eq_true rfl, Nat.le_of_ble_eq_true rfl⟩ rfl (c_Mod_fraction (by rw [hu5, h434]; omega)) ?_
                rintro v1 w5 ⟨hv1, hw5⟩
                rw [hv1]
                clear hv1 v1
                dsimp only [Option.toList, List.cons_append, List.nil_append, List.append_nil]
                refine wp_ret rfl rfl rfl ?_
                refine ⟨rfl, ?_, hI.frac (w' := w5) ?_ ?_ ?_ ?_⟩
                · rw [hw5, up_ne (by decide), up_ne (by decide)]
                  exact hS4.cell (-2) (by decide) (by decide)
                · rw [hw5]
                  exact (hR4.put (Or.inr (by decide))).put (Or.inr (by decide))
                · rw [hw5, up_ne (by decide), up_ne (by decide), up_at (by decide), up_at (by decide), hS4.cell 0 (by decide) (by decide), hS4 100 2 (by decide) (by decide), hw3, up_ne (show (0 : Int) ≠ 50 by decide), up_ne (show (0 : Int) ≠ 50 by decide), up_ne (show (100 : Int) ≠ 50 by decide), up_ne (show (100 : Int) ≠ 50 by decide), hS2.cell 0 (by decide) (by decide), hS2.cell 100 (by decide) (by decide), hS1 0 (by decide), hS1 100 (by decide)]
                  exact hITo
                · rw [hw5, up_ne (by decide), up_ne (by decide), up_at (by decide), up_eq, hS4.cell 50 (by decide) (by decide), hw3, up_at (by decide), up_eq, hu5, h434]
                · rw [hw5, up_ne (by decide), up_ne (by decide), up_eq, hS4.cell 50 (by decide) (by decide), hw3, up_eq, hu5, h434]
          · skip
            rw [hv1, hw9]
            clear hv1 hw9 v1 w9
            dsimp only [Option.toList, List.cons_append, List.nil_append, List.append_nil]
            refine wp_if_eq (pc' := 10) (pt := 24) rfl rfl rfl (fun q_191 => ?_) (fun q_191 => absurd (by decide) q_191)
            refine wp_iconst (a := 0) (pc' := 25) rfl rfl rfl ?_
            refine wp_call (pc' := 28) rfl rfl rfl rfl rfl ⟨Nat.le_of_ble_eq_true rfl, Nat.le_of_ble_eq_true rfl, Nat.le_of_ble_eq_true rfl, Nat.le_of_ble_eq_true rfl, Nat.le_of_ble_eq_true rfl⟩ rfl (c_Mod_need (by decide)) ?_
            rintro v1 w9 ⟨hw9, ⟨hv1, hg1⟩ | ⟨hv1, hg1, hg2⟩ | ⟨hv1, hg1, hg2⟩⟩
            · skip
              rw [hv1, hw9]
              clear hv1 hw9 v1 w9
              dsimp only [Option.toList, List.cons_append, List.nil_append, List.append_nil]
              refine wp_istore_n (pc' := 29) rfl rfl (Nat.le_of_ble_eq_true rfl) rfl ?_
              dsimp only [lset, lset2, List.set, List.getElem?_cons_zero, List.getElem?_cons_succ]
              refine wp_iload_n (pc' := 30) rfl rfl rfl ?_
              refine wp_if_ge (pc' := 33) (pt := 35) rfl rfl rfl (fun q_192 => absurd q_192 (by decide)) (fun q_192 => ?_)
              refine wp_iload_n (pc' := 34) rfl rfl rfl ?_
              refine wp_ret rfl rfl rfl ?_
              first
              | (exfalso; omega)
              | exact ⟨rfl, rfl, hI⟩
            · skip
              rw [hv1, hw9]
              clear hv1 hw9 v1 w9
              dsimp only [Option.toList, List.cons_append, List.nil_append, List.append_nil]
              refine wp_istore_n (pc' := 29) rfl rfl (Nat.le_of_ble_eq_true rfl) rfl ?_
              dsimp only [lset, lset2, List.set, List.getElem?_cons_zero, List.getElem?_cons_succ]
              refine wp_iload_n (pc' := 30) rfl rfl rfl ?_
              refine wp_if_ge (pc' := 33) (pt := 35) rfl rfl rfl (fun q_193 => absurd q_193 (by decide)) (fun q_193 => ?_)
              refine wp_iload_n (pc' := 34) rfl rfl rfl ?_
              refine wp_ret rfl rfl rfl ?_
              first
              | (exfalso; omega)
              | exact ⟨rfl, rfl, hI⟩
            · skip
              rw [hv1, hw9]
              clear hv1 hw9 v1 w9
              dsimp only [Option.toList, List.cons_append, List.nil_append, List.append_nil]
              refine wp_istore_n (pc' := 29) rfl rfl (Nat.le_of_ble_eq_true rfl) rfl ?_
              dsimp only [lset, lset2, List.set, List.getElem?_cons_zero, List.getElem?_cons_succ]
              refine wp_iload_n (pc' := 30) rfl rfl rfl ?_
              refine wp_if_ge (pc' := 33) (pt := 35) rfl rfl rfl (fun q_194 => ?_) (fun q_194 => absurd (by decide) q_194)
              refine wp_aload_n (pc' := 36) rfl rfl rfl (by decide) ?_
              refine wp_iload_n (pc' := 37) rfl rfl rfl ?_
              refine wp_iload_n (pc' := 38) rfl rfl rfl ?_
              refine wp_call (pc' := 41) rfl rfl rfl rfl rfl ⟨Nat.le_of_ble_eq_true rfl, Nat.le_of_ble_eq_true rfl, Nat.le_of_ble_eq_true rfl, Nat.le_of_ble_eq_true rfl, Nat.le_of_ble_eq_true rfl⟩ rfl (c_Mod_layParts hT hm3 hx3 (by omega)) ?_
              rintro v1 w4 ⟨hv1, hS4, h434, h435, h436⟩
              rw [hv1]
              clear hv1 v1
              have hR4 : SameF w w4 LQ FR := hR3.tr (hS4.mono (fun r hr => by simp at hr; rw [hr]; decide) (fun q hq => Or.inl (by simp at hq; rcases hq with rfl | rfl | rfl <;> decide)))
              rw [g103, g113, g123, g73, g93, m0, m1, chH (p := p) hcC, ← hall] at h434
              have hu5 : w4 100 35 = w2 51 way := by
                have hs := sum_sets (C := (fVote (w 3 0) (w 3 1) (w 4) (w 5) (w 3 3) (w 3 4))) (G := w 6) (p := p) hn6b (fun a g => if g = way then a else 0) (fun a => by (try dsimp only); split <;> rfl)
                rw [hz way (by omega) (by omega), hs, h435, g103, g113, g123, g73, g83, g93, m0, m1, chV hcC]
                refine sumI_congr (fun x _ _ => ?_)
                unfold fP
                rw [chWB (s := x) (fun j a b => ⟨hcC j a b, (hpr.2.2.2.2 j a b).2.2⟩)]
              dsimp only [Option.toList, List.cons_append, List.nil_append, List.append_nil]
              refine wp_aload_n (pc' := 42) rfl rfl rfl (by decide) ?_
              refine wp_aload_n (pc' := 43) rfl rfl rfl (by decide) ?_
              refine wp_getL (ci := 10) (k0 := 35) (pc' := 46) rfl rfl (by decide) (by first | assumption | rfl) ?_
              refine wp_aload_n (pc' := 47) rfl rfl rfl (by decide) ?_
              refine wp_getL (ci := 10) (k0 := 34) (pc' := 50) rfl rfl (by decide) (by first | assumption | rfl) ?_
              refine wp_call (pc' := 53) rfl rfl rfl rfl rfl ⟨Nat.le_of_ble_eq_true rfl, Nat.le_of_ble_eq_true rfl, Nat.le_of_ble_eq_true rfl, Nat.le_of_ble_eq_true rfl, Nat.le_of_ble_eq_true rfl⟩ rfl (c_Mod_fraction (by rw [hu5, h434]; omega)) ?_
              rintro v1 w5 ⟨hv1, hw5⟩
              rw [hv1]
              clear hv1 v1
              dsimp only [Option.toList, List.cons_append, List.nil_append, List.append_nil]
              refine wp_ret rfl rfl rfl ?_
              refine ⟨rfl, ?_, hI.frac (w' := w5) ?_ ?_ ?_ ?_⟩
              · rw [hw5, up_ne (by decide), up_ne (by decide)]
                exact hS4.cell (-2) (by decide) (by decide)
              · rw [hw5]
                exact (hR4.put (Or.inr (by decide))).put (Or.inr (by decide))
              · rw [hw5, up_ne (by decide), up_ne (by decide), up_at (by decide), up_at (by decide), hS4.cell 0 (by decide) (by decide), hS4 100 2 (by decide) (by decide), hw3, up_ne (show (0 : Int) ≠ 50 by decide), up_ne (show (0 : Int) ≠ 50 by decide), up_ne (show (100 : Int) ≠ 50 by decide), up_ne (show (100 : Int) ≠ 50 by decide), hS2.cell 0 (by decide) (by decide), hS2.cell 100 (by decide) (by decide), hS1 0 (by decide), hS1 100 (by decide)]
                exact hITo
              · rw [hw5, up_ne (by decide), up_ne (by decide), up_at (by decide), up_eq, hS4.cell 50 (by decide) (by decide), hw3, up_at (by decide), up_eq, hu5, h434]
              · rw [hw5, up_ne (by decide), up_ne (by decide), up_eq, hS4.cell 50 (by decide) (by decide), hw3, up_eq, hu5, h434]
      · skip
        refine wp_iconst (a := -1) (pc' := 18) rfl rfl rfl ?_
        refine wp_ret rfl rfl rfl ?_
        refine ⟨_, rfl, ?_, ?_⟩
        · rfl
        refine wp_aload_n (pc' := 1) rfl rfl rfl (by decide) ?_
        refine wp_iload_n (pc' := 2) rfl rfl rfl ?_
        refine wp_iconst (a := 0) (pc' := 3) rfl rfl rfl ?_
        refine wp_iconst (a := 4) (pc' := 4) rfl rfl rfl ?_
        refine wp_call (pc' := 7) rfl rfl rfl rfl rfl ⟨Nat.le_of_ble_eq_true rfl, Nat.le_of_ble_eq_true rfl, Nat.le_of_ble_eq_true rfl, Nat.le_of_ble_eq_true rfl, Nat.le_of_ble_eq_true rfl⟩ rfl (c_Mod_in) ?_
        rintro v1 w9 ⟨hw9, ⟨hv1, hin⟩ | ⟨hv1, hin⟩⟩
        · skip
          rw [hv1, hw9]
          clear hv1 hw9 v1 w9
          dsimp only [Option.toList, List.cons_append, List.nil_append, List.append_nil]
          refine wp_if_eq (pc' := 10) (pt := 24) rfl rfl rfl (fun q_245 => absurd q_245 (by decide)) (fun q_245 => ?_)
          refine wp_iload_n (pc' := 11) rfl rfl rfl ?_
          refine wp_iconst (a := 0) (pc' := 12) rfl rfl rfl ?_
          refine wp_bipush (a := 12) (pc' := 14) rfl rfl rfl ?_
          refine wp_call (pc' := 17) rfl rfl rfl rfl rfl ⟨Nat.le_of_ble_eq_true rfl, Nat.le_of_ble_eq_true rfl, Nat.le_of_ble_eq_true rfl, Nat.le_of_ble_eq_true rfl, Nat.le_of_ble_eq_true rfl⟩ rfl (c_Mod_in) ?_
          rintro v1 w9 ⟨hw9, ⟨hv1, hin⟩ | ⟨hv1, hin⟩⟩
          · skip
            rw [hv1, hw9]
            clear hv1 hw9 v1 w9
            dsimp only [Option.toList, List.cons_append, List.nil_append, List.append_nil]
            refine wp_if_eq (pc' := 20) (pt := 24) rfl rfl rfl (fun q_246 => absurd q_246 (by decide)) (fun q_246 => ?_)
            refine wp_iconst (a := 1) (pc' := 21) rfl rfl rfl ?_
            refine wp_goto (pc' := 25) rfl rfl ?_
            refine wp_call (pc' := 28) rfl rfl rfl rfl rfl ⟨Nat.le_of_ble_eq_true rfl, Nat.le_of_ble_eq_true rfl, Nat.le_of_ble_eq_true rfl, Nat.le_of_ble_eq_true rfl, Nat.le_of_ble_eq_true rfl⟩ rfl (c_Mod_need (by decide)) ?_
            rintro v1 w9 ⟨hw9, ⟨hv1, hg1⟩ | ⟨hv1, hg1, hg2⟩ | ⟨hv1, hg1, hg2⟩⟩
            · skip
              rw [hv1, hw9]
              clear hv1 hw9 v1 w9
              dsimp only [Option.toList, List.cons_append, List.nil_append, List.append_nil]
              refine wp_istore_n (pc' := 29) rfl rfl (Nat.le_of_ble_eq_true rfl) rfl ?_
              dsimp only [lset, lset2, List.set, List.getElem?_cons_zero, List.getElem?_cons_succ]
              refine wp_iload_n (pc' := 30) rfl rfl rfl ?_
              refine wp_if_ge (pc' := 33) (pt := 35) rfl rfl rfl (fun q_247 => absurd q_247 (by decide)) (fun q_247 => ?_)
              refine wp_iload_n (pc' := 34) rfl rfl rfl ?_
              refine wp_ret rfl rfl rfl ?_
              first
              | (exfalso; omega)
              | exact ⟨rfl, rfl, hI⟩
            · skip
              rw [hv1, hw9]
              clear hv1 hw9 v1 w9
              dsimp only [Option.toList, List.cons_append, List.nil_append, List.append_nil]
              refine wp_istore_n (pc' := 29) rfl rfl (Nat.le_of_ble_eq_true rfl) rfl ?_
              dsimp only [lset, lset2, List.set, List.getElem?_cons_zero, List.getElem?_cons_succ]
              refine wp_iload_n (pc' := 30) rfl rfl rfl ?_
              refine wp_if_ge (pc' := 33) (pt := 35) rfl rfl rfl (fun q_248 => absurd q_248 (by decide)) (fun q_248 => ?_)
              refine wp_iload_n (pc' := 34) rfl rfl rfl ?_
              refine wp_ret rfl rfl rfl ?_
              first
              | (exfalso; omega)
              | exact ⟨rfl, rfl, hI⟩
            · skip
              rw [hv1, hw9]
              clear hv1 hw9 v1 w9
              dsimp only [Option.toList, List.cons_append, List.nil_append, List.append_nil]
              refine wp_istore_n (pc' := 29) rfl rfl (Nat.le_of_ble_eq_true rfl) rfl ?_
              dsimp only [lset, lset2, List.set, List.getElem?_cons_zero, List.getElem?_cons_succ]
              refine wp_iload_n (pc' := 30) rfl rfl rfl ?_
              refine wp_if_ge (pc' := 33) (pt := 35) rfl rfl rfl (fun q_249 => ?_) (fun q_249 => absurd (by decide) q_249)
              exfalso; omega
          · skip
            rw [hv1, hw9]
            clear hv1 hw9 v1 w9
            dsimp only [Option.toList, List.cons_append, List.nil_append, List.append_nil]
            refine wp_if_eq (pc' := 20) (pt := 24) rfl rfl rfl (fun q_250 => ?_) (fun q_250 => absurd (by decide) q_250)
            refine wp_iconst (a := 0) (pc' := 25) rfl rfl rfl ?_
            refine wp_call (pc' := 28) rfl rfl rfl rfl rfl ⟨Nat.le_of_ble_eq_true rfl, Nat.le_of_ble_eq_true rfl, Nat.le_of_ble_eq_true rfl, Nat.le_of_ble_eq_true rfl, Nat.le_of_ble_eq_true rfl⟩ rfl (c_Mod_need (by decide)) ?_
            rintro v1 w9 ⟨hw9, ⟨hv1, hg1⟩ | ⟨hv1, hg1, hg2⟩ | ⟨hv1, hg1, hg2⟩⟩
            · skip
              rw [hv1, hw9]
              clear hv1 hw9 v1 w9
              dsimp only [Option.toList, List.cons_append, List.nil_append, List.append_nil]
              refine wp_istore_n (pc' := 29) rfl rfl (Nat.le_of_ble_eq_true rfl) rfl ?_
              dsimp only [lset, lset2, List.set, List.getElem?_cons_zero, List.getElem?_cons_succ]
              refine wp_iload_n (pc' := 30) rfl rfl rfl ?_
              refine wp_if_ge (pc' := 33) (pt := 35) rfl rfl rfl (fun q_251 => absurd q_251 (by decide)) (fun q_251 => ?_)
              refine wp_iload_n (pc' := 34) rfl rfl rfl ?_
              refine wp_ret rfl rfl rfl ?_
              first
              | (exfalso; omega)
              | exact ⟨rfl, rfl, hI⟩
            · skip
              rw [hv1, hw9]
              clear hv1 hw9 v1 w9
              dsimp only [Option.toList, List.cons_append, List.nil_append, List.append_nil]
              refine wp_istore_n (pc' := 29) rfl rfl (Nat.le_of_ble_eq_true rfl) rfl ?_
              dsimp only [lset, lset2, List.set, List.getElem?_cons_zero, List.getElem?_cons_succ]
              refine wp_iload_n (pc' := 30) rfl rfl rfl ?_
              refine wp_if_ge (pc' := 33) (pt := 35) rfl rfl rfl (fun q_252 => absurd q_252 (by decide)) (fun q_252 => ?_)
              refine wp_iload_n (pc' := 34) rfl rfl rfl ?_
              refine wp_ret rfl rfl rfl ?_
              first
              | (exfalso; omega)
              | exact ⟨rfl, rfl, hI⟩
            · skip
              rw [hv1, hw9]
              clear hv1 hw9 v1 w9
              dsimp only [Option.toList, List.cons_append, List.nil_append, List.append_nil]
              refine wp_istore_n (pc' := 29) rfl rfl (Nat.le_of_ble_eq_true rfl) rfl ?_
              dsimp only [lset, lset2, List.set, List.getElem?_cons_zero, List.getElem?_cons_succ]
              refine wp_iload_n (pc' := 30) rfl rfl rfl ?_
              refine wp_if_ge (pc' := 33) (pt := 35) rfl rfl rfl (fun q_253 => ?_) (fun q_253 => absurd (by decide) q_253)
              exfalso; omega
        · skip
          rw [hv1, hw9]
          clear hv1 hw9 v1 w9
          dsimp only [Option.toList, List.cons_append, List.nil_append, List.append_nil]
          refine wp_if_eq (pc' := 10) (pt := 24) rfl rfl rfl (fun q_254 => ?_) (fun q_254 => absurd (by decide) q_254)
          refine wp_iconst (a := 0) (pc' := 25) rfl rfl rfl ?_
          refine wp_call (pc' := 28) rfl rfl rfl rfl rfl ⟨Nat.le_of_ble_eq_true rfl, Nat.le_of_ble_eq_true rfl, Nat.le_of_ble_eq_true rfl, Nat.le_of_ble_eq_true rfl, Nat.le_of_ble_eq_true rfl⟩ rfl (c_Mod_need (by decide)) ?_
          rintro v1 w9 ⟨hw9, ⟨hv1, hg1⟩ | ⟨hv1, hg1, hg2⟩ | ⟨hv1, hg1, hg2⟩⟩
          · skip
            rw [hv1, hw9]
            clear hv1 hw9 v1 w9
            dsimp only [Option.toList, List.cons_append, List.nil_append, List.append_nil]
            refine wp_istore_n (pc' := 29) rfl rfl (Nat.le_of_ble_eq_true rfl) rfl ?_
            dsimp only [lset, lset2, List.set, List.getElem?_cons_zero, List.getElem?_cons_succ]
            refine wp_iload_n (pc' := 30) rfl rfl rfl ?_
            refine wp_if_ge (pc' := 33) (pt := 35) rfl rfl rfl (fun q_255 => absurd q_255 (by decide)) (fun q_255 => ?_)
            refine wp_iload_n (pc' := 34) rfl rfl rfl ?_
            refine wp_ret rfl rfl rfl ?_
            first
            | (exfalso; omega)
            | exact ⟨rfl, rfl, hI⟩
          · skip
            rw [hv1, hw9]
            clear hv1 hw9 v1 w9
            dsimp only [Option.toList, List.cons_append, List.nil_append, List.append_nil]
            refine wp_istore_n (pc' := 29) rfl rfl (Nat.le_of_ble_eq_true rfl) rfl ?_
            dsimp only [lset, lset2, List.set, List.getElem?_cons_zero, List.getElem?_cons_succ]
            refine wp_iload_n (pc' := 30) rfl rfl rfl ?_
            refine wp_if_ge (pc' := 33) (pt := 35) rfl rfl rfl (fun q_256 => absurd q_256 (by decide)) (fun q_256 => ?_)
            refine wp_iload_n (pc' := 34) rfl rfl rfl ?_
            refine wp_ret rfl rfl rfl ?_
            first
            | (exfalso; omega)
            | exact ⟨rfl, rfl, hI⟩
          · skip
            rw [hv1, hw9]
            clear hv1 hw9 v1 w9
            dsimp only [Option.toList, List.cons_append, List.nil_append, List.append_nil]
            refine wp_istore_n (pc' := 29) rfl rfl (Nat.le_of_ble_eq_true rfl) rfl ?_
            dsimp only [lset, lset2, List.set, List.getElem?_cons_zero, List.getElem?_cons_succ]
            refine wp_iload_n (pc' := 30) rfl rfl rfl ?_
            refine wp_if_ge (pc' := 33) (pt := 35) rfl rfl rfl (fun q_257 => ?_) (fun q_257 => absurd (by decide) q_257)
            exfalso; omega
  · skip
    rw [hv1, hw9]
    clear hv1 hw9 v1 w9
    dsimp only [Option.toList, List.cons_append, List.nil_append, List.append_nil]
    refine wp_if_eq (pc' := 7) (pt := 17) rfl rfl rfl (fun q_258 => ?_) (fun q_258 => absurd (by decide) q_258)
    refine wp_iconst (a := -1) (pc' := 18) rfl rfl rfl ?_
    refine wp_ret rfl rfl rfl ?_
    refine ⟨_, rfl, ?_, ?_⟩
    · rfl
    refine wp_aload_n (pc' := 1) rfl rfl rfl (by decide) ?_
    refine wp_iload_n (pc' := 2) rfl rfl rfl ?_
    refine wp_iconst (a := 0) (pc' := 3) rfl rfl rfl ?_
    refine wp_iconst (a := 4) (pc' := 4) rfl rfl rfl ?_
    refine wp_call (pc' := 7) rfl rfl rfl rfl rfl ⟨Nat.le_of_ble_eq_true rfl, Nat.le_of_ble_eq_true rfl, Nat.le_of_ble_eq_true rfl, Nat.le_of_ble_eq_true rfl, Nat.le_of_ble_eq_true rfl⟩ rfl (c_Mod_in) ?_
    rintro v1 w9 ⟨hw9, ⟨hv1, hin⟩ | ⟨hv1, hin⟩⟩
    · skip
      rw [hv1, hw9]
      clear hv1 hw9 v1 w9
      dsimp only [Option.toList, List.cons_append, List.nil_append, List.append_nil]
      refine wp_if_eq (pc' := 10) (pt := 24) rfl rfl rfl (fun q_309 => absurd q_309 (by decide)) (fun q_309 => ?_)
      refine wp_iload_n (pc' := 11) rfl rfl rfl ?_
      refine wp_iconst (a := 0) (pc' := 12) rfl rfl rfl ?_
      refine wp_bipush (a := 12) (pc' := 14) rfl rfl rfl ?_
      refine wp_call (pc' := 17) rfl rfl rfl rfl rfl ⟨Nat.le_of_ble_eq_true rfl, Nat.le_of_ble_eq_true rfl, Nat.le_of_ble_eq_true rfl, Nat.le_of_ble_eq_true rfl, Nat.le_of_ble_eq_true rfl⟩ rfl (c_Mod_in) ?_
      rintro v1 w9 ⟨hw9, ⟨hv1, hin⟩ | ⟨hv1, hin⟩⟩
      · skip
        rw [hv1, hw9]
        clear hv1 hw9 v1 w9
        dsimp only [Option.toList, List.cons_append, List.nil_append, List.append_nil]
        refine wp_if_eq (pc' := 20) (pt := 24) rfl rfl rfl (fun q_310 => absurd q_310 (by decide)) (fun q_310 => ?_)
        refine wp_iconst (a := 1) (pc' := 21) rfl rfl rfl ?_
        refine wp_goto (pc' := 25) rfl rfl ?_
        refine wp_call (pc' := 28) rfl rfl rfl rfl rfl ⟨Nat.le_of_ble_eq_true rfl, Nat.le_of_ble_eq_true rfl, Nat.le_of_ble_eq_true rfl, Nat.le_of_ble_eq_true rfl, Nat.le_of_ble_eq_true rfl⟩ rfl (c_Mod_need (by decide)) ?_
        rintro v1 w9 ⟨hw9, ⟨hv1, hg1⟩ | ⟨hv1, hg1, hg2⟩ | ⟨hv1, hg1, hg2⟩⟩
        · skip
          rw [hv1, hw9]
          clear hv1 hw9 v1 w9
          dsimp only [Option.toList, List.cons_append, List.nil_append, List.append_nil]
          refine wp_istore_n (pc' := 29) rfl rfl (Nat.le_of_ble_eq_true rfl) rfl ?_
          dsimp only [lset, lset2, List.set, List.getElem?_cons_zero, List.getElem?_cons_succ]
          refine wp_iload_n (pc' := 30) rfl rfl rfl ?_
          refine wp_if_ge (pc' := 33) (pt := 35) rfl rfl rfl (fun q_311 => absurd q_311 (by decide)) (fun q_311 => ?_)
          refine wp_iload_n (pc' := 34) rfl rfl rfl ?_
          refine wp_ret rfl rfl rfl ?_
          first
          | (exfalso; omega)
          | exact ⟨rfl, rfl, hI⟩
        · skip
          rw [hv1, hw9]
          clear hv1 hw9 v1 w9
          dsimp only [Option.toList, List.cons_append, List.nil_append, List.append_nil]
          refine wp_istore_n (pc' := 29) rfl rfl (Nat.le_of_ble_eq_true rfl) rfl ?_
          dsimp only [lset, lset2, List.set, List.getElem?_cons_zero, List.getElem?_cons_succ]
          refine wp_iload_n (pc' := 30) rfl rfl rfl ?_
          refine wp_if_ge (pc' := 33) (pt := 35) rfl rfl rfl (fun q_312 => absurd q_312 (by decide)) (fun q_312 => ?_)
          refine wp_iload_n (pc' := 34) rfl rfl rfl ?_
          refine wp_ret rfl rfl rfl ?_
          first
          | (exfalso; omega)
          | exact ⟨rfl, rfl, hI⟩
        · skip
          rw [hv1, hw9]
          clear hv1 hw9 v1 w9
          dsimp only [Option.toList, List.cons_append, List.nil_append, List.append_nil]
          refine wp_istore_n (pc' := 29) rfl rfl (Nat.le_of_ble_eq_true rfl) rfl ?_
          dsimp only [lset, lset2, List.set, List.getElem?_cons_zero, List.getElem?_cons_succ]
          refine wp_iload_n (pc' := 30) rfl rfl rfl ?_
          refine wp_if_ge (pc' := 33) (pt := 35) rfl rfl rfl (fun q_313 => ?_) (fun q_313 => absurd (by decide) q_313)
          exfalso; omega
      · skip
        rw [hv1, hw9]
        clear hv1 hw9 v1 w9
        dsimp only [Option.toList, List.cons_append, List.nil_append, List.append_nil]
        refine wp_if_eq (pc' := 20) (pt := 24) rfl rfl rfl (fun q_314 => ?_) (fun q_314 => absurd (by decide) q_314)
        refine wp_iconst (a := 0) (pc' := 25) rfl rfl rfl ?_
        refine wp_call (pc' := 28) rfl rfl rfl rfl rfl ⟨Nat.le_of_ble_eq_true rfl, Nat.le_of_ble_eq_true rfl, Nat.le_of_ble_eq_true rfl, Nat.le_of_ble_eq_true rfl, Nat.le_of_ble_eq_true rfl⟩ rfl (c_Mod_need (by decide)) ?_
        rintro v1 w9 ⟨hw9, ⟨hv1, hg1⟩ | ⟨hv1, hg1, hg2⟩ | ⟨hv1, hg1, hg2⟩⟩
        · skip
          rw [hv1, hw9]
          clear hv1 hw9 v1 w9
          dsimp only [Option.toList, List.cons_append, List.nil_append, List.append_nil]
          refine wp_istore_n (pc' := 29) rfl rfl (Nat.le_of_ble_eq_true rfl) rfl ?_
          dsimp only [lset, lset2, List.set, List.getElem?_cons_zero, List.getElem?_cons_succ]
          refine wp_iload_n (pc' := 30) rfl rfl rfl ?_
          refine wp_if_ge (pc' := 33) (pt := 35) rfl rfl rfl (fun q_315 => absurd q_315 (by decide)) (fun q_315 => ?_)
          refine wp_iload_n (pc' := 34) rfl rfl rfl ?_
          refine wp_ret rfl rfl rfl ?_
          first
          | (exfalso; omega)
          | exact ⟨rfl, rfl, hI⟩
        · skip
          rw [hv1, hw9]
          clear hv1 hw9 v1 w9
          dsimp only [Option.toList, List.cons_append, List.nil_append, List.append_nil]
          refine wp_istore_n (pc' := 29) rfl rfl (Nat.le_of_ble_eq_true rfl) rfl ?_
          dsimp only [lset, lset2, List.set, List.getElem?_cons_zero, List.getElem?_cons_succ]
          refine wp_iload_n (pc' := 30) rfl rfl rfl ?_
          refine wp_if_ge (pc' := 33) (pt := 35) rfl rfl rfl (fun q_316 => absurd q_316 (by decide)) (fun q_316 => ?_)
          refine wp_iload_n (pc' := 34) rfl rfl rfl ?_
          refine wp_ret rfl rfl rfl ?_
          first
          | (exfalso; omega)
          | exact ⟨rfl, rfl, hI⟩
        · skip
          rw [hv1, hw9]
          clear hv1 hw9 v1 w9
          dsimp only [Option.toList, List.cons_append, List.nil_append, List.append_nil]
          refine wp_istore_n (pc' := 29) rfl rfl (Nat.le_of_ble_eq_true rfl) rfl ?_
          dsimp only [lset, lset2, List.set, List.getElem?_cons_zero, List.getElem?_cons_succ]
          refine wp_iload_n (pc' := 30) rfl rfl rfl ?_
          refine wp_if_ge (pc' := 33) (pt := 35) rfl rfl rfl (fun q_317 => ?_) (fun q_317 => absurd (by decide) q_317)
          exfalso; omega
    · skip
      rw [hv1, hw9]
      clear hv1 hw9 v1 w9
      dsimp only [Option.toList, List.cons_append, List.nil_append, List.append_nil]
      refine wp_if_eq (pc' := 10) (pt := 24) rfl rfl rfl (fun q_318 => ?_) (fun q_318 => absurd (by decide) q_318)
      refine wp_iconst (a := 0) (pc' := 25) rfl rfl rfl ?_
      refine wp_call (pc' := 28) rfl rfl rfl rfl rfl ⟨Nat.le_of_ble_eq_true rfl, Nat.le_of_ble_eq_true rfl, Nat.le_of_ble_eq_true rfl, Nat.le_of_ble_eq_true rfl, Nat.le_of_ble_eq_true rfl⟩ rfl (c_Mod_need (by decide)) ?_
      rintro v1 w9 ⟨hw9, ⟨hv1, hg1⟩ | ⟨hv1, hg1, hg2⟩ | ⟨hv1, hg1, hg2⟩⟩
      · skip
        rw [hv1, hw9]
        clear hv1 hw9 v1 w9
        dsimp only [Option.toList, List.cons_append, List.nil_append, List.append_nil]
        refine wp_istore_n (pc' := 29) rfl rfl (Nat.le_of_ble_eq_true rfl) rfl ?_
        dsimp only [lset, lset2, List.set, List.getElem?_cons_zero, List.getElem?_cons_succ]
        refine wp_iload_n (pc' := 30) rfl rfl rfl ?_
        refine wp_if_ge (pc' := 33) (pt := 35) rfl rfl rfl (fun q_319 => absurd q_319 (by decide)) (fun q_319 => ?_)
        refine wp_iload_n (pc' := 34) rfl rfl rfl ?_
        refine wp_ret rfl rfl rfl ?_
        first
        | (exfalso; omega)
        | exact ⟨rfl, rfl, hI⟩
      · skip
        rw [hv1, hw9]
        clear hv1 hw9 v1 w9
        dsimp only [Option.toList, List.cons_append, List.nil_append, List.append_nil]
        refine wp_istore_n (pc' := 29) rfl rfl (Nat.le_of_ble_eq_true rfl) rfl ?_
        dsimp only [lset, lset2, List.set, List.getElem?_cons_zero, List.getElem?_cons_succ]
        refine wp_iload_n (pc' := 30) rfl rfl rfl ?_
        refine wp_if_ge (pc' := 33) (pt := 35) rfl rfl rfl (fun q_320 => absurd q_320 (by decide)) (fun q_320 => ?_)
        refine wp_iload_n (pc' := 34) rfl rfl rfl ?_
        refine wp_ret rfl rfl rfl ?_
        first
        | (exfalso; omega)
        | exact ⟨rfl, rfl, hI⟩
      · skip
        rw [hv1, hw9]
        clear hv1 hw9 v1 w9
        dsimp only [Option.toList, List.cons_append, List.nil_append, List.append_nil]
        refine wp_istore_n (pc' := 29) rfl rfl (Nat.le_of_ble_eq_true rfl) rfl ?_
        dsimp only [lset, lset2, List.set, List.getElem?_cons_zero, List.getElem?_cons_succ]
        refine wp_iload_n (pc' := 30) rfl rfl rfl ?_
        refine wp_if_ge (pc' := 33) (pt := 35) rfl rfl rfl (fun q_321 => ?_) (fun q_321 => absurd (by decide) q_321)
        exfalso; omega
