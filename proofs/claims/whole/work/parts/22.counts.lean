/-! the reference's counts; votes held; years -/
theorem MdOK.same {w w' : Hp} {L : List Int} (h : MdOK w) (hs : Same w w' L) (hL : (100 : Int) ∉ L ∧ (107 : Int) ∉ L ∧ (108 : Int) ∉ L ∧ (109 : Int) ∉ L) : MdOK w' := by
  unfold MdOK
  rw [hs 100 hL.1, hs 107 hL.2.1, hs 108 hL.2.2.1, hs 109 hL.2.2.2]
  exact h
theorem LnOK.same {w w' : Hp} {L : List Int} (h : LnOK w) (hs : Same w w' L) (hL : (3 : Int) ∉ L ∧ (4 : Int) ∉ L ∧ (5 : Int) ∉ L ∧ (6 : Int) ∉ L) : LnOK w' := by
  unfold LnOK
  rw [hs 3 hL.1, hs 4 hL.2.1, hs 5 hL.2.2.1, hs 6 hL.2.2.2]
  exact h
theorem ROw.same {w w' : Hp} {L : List Int} (h : ROw w) (hs : Same w w' L) (hL : (-3 : Int) ∉ L ∧ (-4 : Int) ∉ L ∧ (-5 : Int) ∉ L) : ROw w' := by
  unfold ROw
  rw [hs _ hL.1, hs _ hL.2.1, hs _ hL.2.2]
  exact h
/-- the vote of one as the reference has it -/
def fVote (c l : Int) (K H : Int → Int) (cell back : Int) : Int → Int := fun i => sVote c l (K i) (H i) cell back
def vOfM (voting bought way : Int) (C : Int → Int) : Int → Int := fun i => if bit bought i = 1 then way else if bit voting i = 1 then C i else -9
set_option maxRecDepth 20000 in
set_option maxHeartbeats 4000000 in
theorem l_lay1 {w : Hp} {d : Nat} {cell back vt bo way : Int} (hT0 : Stc w) (hp : MdOK w) (hx : Cel (w 100 11) (w 100 12) cell) (hwy : 0 ≤ way ∧ way ≤ 4) {Q : Option PV → Hp → Prop} {x7 : Option PV} (K : ∀ w1 : Hp, Same w w1 [113] → (∀ j : Int, 0 ≤ j → j < 5 → w1 113 j = 0) → WP SH (d + 5) 178 23 [some (vR 100), some (vI cell), some (vI back), some (vI vt), some (vI bo), some (vI way), some (vI 5), x7] [] w1 Q) : ∀ (k : Nat) (i : Int) (w1 : Hp), 0 ≤ i → i + k = 5 → Same w w1 [113] → (∀ j : Int, 0 ≤ j → j < i → w1 113 j = 0) → WP SH (d + 5) 178 3 [some (vR 100), some (vI cell), some (vI back), some (vI vt), some (vI bo), some (vI way), some (vI i), x7] [] w1 Q := by
  intro k
  induction k with
  | zero =>
    intro i w1 hi0 hik hS hz
    have hT := hT0.same hS (by decide)
    have e0 : w1 100 = w 100 := hS 100 (by decide)
    have e32 : w1 100 10 = w 100 10 := by rw [e0]
    obtain ⟨hc, hn, hall⟩ := id hp
    refine wp_iload (pc' := 5) rfl rfl rfl ?_
    refine wp_iconst (a := 4) (pc' := 6) rfl rfl rfl ?_
    refine wp_icmp_gt (pc' := 9) (pt := 23) rfl rfl rfl (fun q_1 => ?_) (fun q_1 => ?_)
    · skip
      obtain rfl : i = 5 := by omega
      exact K w1 hS hz
    · skip
      exfalso; omega
  | succ k ih =>
    intro i w1 hi0 hik hS hz
    have hT := hT0.same hS (by decide)
    have e0 : w1 100 = w 100 := hS 100 (by decide)
    have e32 : w1 100 10 = w 100 10 := by rw [e0]
    obtain ⟨hc, hn, hall⟩ := id hp
    refine wp_iload (pc' := 5) rfl rfl rfl ?_
    refine wp_iconst (a := 4) (pc' := 6) rfl rfl rfl ?_
    refine wp_icmp_gt (pc' := 9) (pt := 23) rfl rfl rfl (fun q_1 => ?_) (fun q_1 => ?_)
    · skip
      exfalso; omega
    · skip
      refine wp_aload_n (pc' := 10) rfl rfl rfl (by decide) ?_
      refine wp_getR (r' := 113) (ci := 10) (k0 := 22) (pc' := 13) rfl rfl (by decide) (by first | assumption | rfl) (hT.get 111 rfl) ?_
      refine wp_iload (pc' := 15) rfl rfl rfl ?_
      refine wp_iconst (a := 0) (pc' := 16) rfl rfl rfl ?_
      refine wp_iastore (pc' := 17) rfl rfl (by first | assumption | rfl) (by omega) ?_
      refine wp_iinc (pc' := 20) rfl rfl rfl (inc_id (by omega) (by omega)) rfl ?_
      dsimp only [lset, lset2, List.set, List.getElem?_cons_zero, List.getElem?_cons_succ]
      refine wp_goto (pc' := 3) rfl rfl ?_
      refine ih _ _ (by omega) (by omega) (hS.put (by decide)) (fun j a b => ?_)
      by_cases hj : j = i
      · rw [hj, up_eq]
      · rw [up_at hj]; exact hz j a (by omega)
set_option maxRecDepth 20000 in
set_option maxHeartbeats 4000000 in
theorem l_lay2 {w : Hp} {d : Nat} {cell back vt bo way : Int} (hT0 : Stc w) (hp : MdOK w) (hx : Cel (w 100 11) (w 100 12) cell) (hwy : 0 ≤ way ∧ way ≤ 4) : ∀ (k : Nat) (i : Int) (w1 : Hp) (x7 : Option PV), 0 ≤ i → i + k = w 100 10 → Same w w1 [113] → (∀ j : Int, 0 ≤ j → j < 5 → w1 113 j = sumI (fHeap (vOfM vt bo way (fVote (w 100 11) (w 100 12) (w 107) (fun i => w 109 (3 + i)) cell back)) (w 108) j) i) → WP SH (d + 5) 178 26 [some (vR 100), some (vI cell), some (vI back), some (vI vt), some (vI bo), some (vI way), some (vI i), x7] [] w1 (fun v w' => v = none ∧ Same w w' [113] ∧ ∀ j : Int, 0 ≤ j → j < 5 → w' 113 j = sumI (fHeap (vOfM vt bo way (fVote (w 100 11) (w 100 12) (w 107) (fun i => w 109 (3 + i)) cell back)) (w 108) j) (w 100 10)) := by
  intro k
  induction k with
  | zero =>
    intro i w1 x7 hi0 hik hS hz
    have hT := hT0.same hS (by decide)
    have e0 : w1 100 = w 100 := hS 100 (by decide)
    have e32 : w1 100 10 = w 100 10 := by rw [e0]
    obtain ⟨hc, hn, hall⟩ := id hp
    have e8 : w1 108 i = w 108 i := by rw [hS 108 (by decide)]
    have hp1 := hp.same hS (by decide)
    have hcx : Cel (w1 100 11) (w1 100 12) cell := by rw [e0]; exact hx
    refine wp_iload (pc' := 28) rfl rfl rfl ?_
    refine wp_aload_n (pc' := 29) rfl rfl rfl (by decide) ?_
    refine wp_getI (ci := 10) (k0 := 10) (pc' := 32) rfl rfl (by decide) (by first | assumption | rfl) ?_
    refine wp_icmp_ge (pc' := 35) (pt := 104) rfl rfl rfl (fun q_1 => ?_) (fun q_1 => ?_)
    · skip
      refine wp_ret rfl rfl rfl ?_
      exact ⟨rfl, hS, fun j a b => by rw [hz j a b, show i = w 100 10 by omega]⟩
    · skip
      exfalso; omega
  | succ k ih =>
    intro i w1 x7 hi0 hik hS hz
    have hT := hT0.same hS (by decide)
    have e0 : w1 100 = w 100 := hS 100 (by decide)
    have e32 : w1 100 10 = w 100 10 := by rw [e0]
    obtain ⟨hc, hn, hall⟩ := id hp
    have e8 : w1 108 i = w 108 i := by rw [hS 108 (by decide)]
    have hp1 := hp.same hS (by decide)
    have hcx : Cel (w1 100 11) (w1 100 12) cell := by rw [e0]; exact hx
    refine wp_iload (pc' := 28) rfl rfl rfl ?_
    refine wp_aload_n (pc' := 29) rfl rfl rfl (by decide) ?_
    refine wp_getI (ci := 10) (k0 := 10) (pc' := 32) rfl rfl (by decide) (by first | assumption | rfl) ?_
    refine wp_icmp_ge (pc' := 35) (pt := 104) rfl rfl rfl (fun q_1 => ?_) (fun q_1 => ?_)
    · skip
      exfalso; omega
    · skip
      have hai := hall i hi0 (by omega)
      have hai1 := hp1.2.2 i hi0 (by omega)
      have hsv := @sVote_in _ _ (w 107 i) (w 109 (3 + i)) cell back hc hx
      have hbb : ∀ j : Int, 0 ≤ j → j < 5 → 0 ≤ w1 113 j ∧ w1 113 j ≤ 54 := fun j a b => by
        rw [hz j a b]
        exact heap_bd hi0 (by omega) (fun j a b => (hall j a (by omega)).2.2)
      refine wp_iload (pc' := 37) rfl rfl rfl ?_
      refine wp_iload (pc' := 39) rfl rfl rfl ?_
      refine wp_call (pc' := 42) rfl rfl rfl rfl rfl ⟨Nat.le_of_ble_eq_true rfl, Nat.le_of_ble_eq_true rfl, Nat.le_of_ble_eq_true rfl, Nat.le_of_ble_eq_true rfl, Nat.le_of_ble_eq_true rfl⟩ rfl (c_Mod_has) ?_
      rintro v1 w2 ⟨hw1, ⟨hv1, hb1⟩ | ⟨hv1, hb1⟩⟩
      · skip
        rw [hv1, hw1]
        clear hv1 hw1 v1 w2
        dsimp only [Option.toList, List.cons_append, List.nil_append, List.append_nil]
        refine wp_if_eq (pc' := 45) (pt := 50) rfl rfl rfl (fun q_2 => absurd q_2 (by decide)) (fun q_2 => ?_)
        refine wp_iload (pc' := 47) rfl rfl rfl ?_
        refine wp_goto (pc' := 72) rfl rfl ?_
        refine wp_istore (pc' := 74) rfl rfl (Nat.le_of_ble_eq_true rfl) rfl ?_
        dsimp only [lset, lset2, List.set, List.getElem?_cons_zero, List.getElem?_cons_succ]
        refine wp_iload (pc' := 76) rfl rfl rfl ?_
        refine wp_bipush (a := -9) (pc' := 78) rfl rfl rfl ?_
        refine wp_icmp_eq (pc' := 81) (pt := 98) rfl rfl rfl (fun q_3 => ?_) (fun q_3 => ?_)
        · skip
          refine wp_iinc (pc' := 101) rfl rfl rfl (inc_id (by omega) (by omega)) rfl ?_
          dsimp only [lset, lset2, List.set, List.getElem?_cons_zero, List.getElem?_cons_succ]
          refine wp_goto (pc' := 26) rfl rfl ?_
          have hv : vOfM vt bo way (fVote (w 100 11) (w 100 12) (w 107) (fun i => w 109 (3 + i)) cell back) i = way := by
            unfold vOfM
            first | rw [if_pos (by assumption)] | rw [if_neg (by assumption), if_pos (by assumption)] | rw [if_neg (by assumption), if_neg (by assumption)]
            try rfl
          refine ih _ _ _ (by omega) (by omega) hS (fun j a b => ?_)
          rw [sumI_s _ hi0, hz j a b]
          unfold fHeap
          rw [hv]
          split <;> omega
        · skip
          refine wp_aload_n (pc' := 82) rfl rfl rfl (by decide) ?_
          refine wp_getR (r' := 113) (ci := 10) (k0 := 22) (pc' := 85) rfl rfl (by decide) (by first | assumption | rfl) (hT.get 111 rfl) ?_
          refine wp_iload (pc' := 87) rfl rfl rfl ?_
          refine wp_dup2 (pc' := 88) rfl rfl ?_
          refine wp_iaload (pc' := 89) rfl rfl (by first | assumption | rfl) (by omega) ?_
          refine wp_aload_n (pc' := 90) rfl rfl rfl (by decide) ?_
          refine wp_getR (r' := 108) (ci := 10) (k0 := 14) (pc' := 93) rfl rfl (by decide) (by first | assumption | rfl) (hT.get 106 rfl) ?_
          refine wp_iload (pc' := 95) rfl rfl rfl ?_
          refine wp_iaload (pc' := 96) rfl rfl (by first | assumption | rfl) (by omega) ?_
          refine wp_iadd (pc' := 97) rfl rfl (by first | exact w32_id (by omega) (by omega) | rfl) ?_
          refine wp_iastore (pc' := 98) rfl rfl (by first | assumption | rfl) (by omega) ?_
          refine wp_iinc (pc' := 101) rfl rfl rfl (inc_id (by omega) (by omega)) rfl ?_
          dsimp only [lset, lset2, List.set, List.getElem?_cons_zero, List.getElem?_cons_succ]
          refine wp_goto (pc' := 26) rfl rfl ?_
          have hv : vOfM vt bo way (fVote (w 100 11) (w 100 12) (w 107) (fun i => w 109 (3 + i)) cell back) i = way := by
            unfold vOfM
            first | rw [if_pos (by assumption)] | rw [if_neg (by assumption), if_pos (by assumption)] | rw [if_neg (by assumption), if_neg (by assumption)]
            try rfl
          refine ih _ _ _ (by omega) (by omega) (hS.put (by decide)) (fun j a b => ?_)
          rw [sumI_s _ hi0]
          have hzj := hz j a b
          by_cases hj : j = way
          · have hq := hbb j a b
            rw [hj] at hzj hq
            rw [hj, up_eq, w32_id (by omega) (by omega), hzj]
            unfold fHeap
            rw [hv]
            split <;> omega
          · rw [up_at hj, hzj]
            unfold fHeap
            rw [hv]
            split <;> omega
      · skip
        rw [hv1, hw1]
        clear hv1 hw1 v1 w2
        dsimp only [Option.toList, List.cons_append, List.nil_append, List.append_nil]
        refine wp_if_eq (pc' := 45) (pt := 50) rfl rfl rfl (fun q_4 => ?_) (fun q_4 => absurd (by decide) q_4)
        refine wp_iload_n (pc' := 51) rfl rfl rfl ?_
        refine wp_iload (pc' := 53) rfl rfl rfl ?_
        refine wp_call (pc' := 56) rfl rfl rfl rfl rfl ⟨Nat.le_of_ble_eq_true rfl, Nat.le_of_ble_eq_true rfl, Nat.le_of_ble_eq_true rfl, Nat.le_of_ble_eq_true rfl, Nat.le_of_ble_eq_true rfl⟩ rfl (c_Mod_has) ?_
        rintro v1 w2 ⟨hw1, ⟨hv1, hb1⟩ | ⟨hv1, hb1⟩⟩
        · skip
          rw [hv1, hw1]
          clear hv1 hw1 v1 w2
          dsimp only [Option.toList, List.cons_append, List.nil_append, List.append_nil]
          refine wp_if_eq (pc' := 59) (pt := 70) rfl rfl rfl (fun q_5 => absurd q_5 (by decide)) (fun q_5 => ?_)
          refine wp_aload_n (pc' := 60) rfl rfl rfl (by decide) ?_
          refine wp_iload (pc' := 62) rfl rfl rfl ?_
          refine wp_iload_n (pc' := 63) rfl rfl rfl ?_
          refine wp_iload_n (pc' := 64) rfl rfl rfl ?_
          refine wp_call (pc' := 67) rfl rfl rfl rfl rfl ⟨Nat.le_of_ble_eq_true rfl, Nat.le_of_ble_eq_true rfl, Nat.le_of_ble_eq_true rfl, Nat.le_of_ble_eq_true rfl, Nat.le_of_ble_eq_true rfl⟩ rfl (c_Mod_voteOn (w := w1) hp1.1 hT (by omega) hcx hai1.2.1) ?_
          intro v1 w2 hq1
          rw [hq1.1, hq1.2]
          clear hq1 v1 w2
          rw [e0, hS 107 (by decide), hS 109 (by decide)]
          dsimp only [Option.toList, List.cons_append, List.nil_append, List.append_nil]
          refine wp_goto (pc' := 72) rfl rfl ?_
          refine wp_istore (pc' := 74) rfl rfl (Nat.le_of_ble_eq_true rfl) rfl ?_
          dsimp only [lset, lset2, List.set, List.getElem?_cons_zero, List.getElem?_cons_succ]
          refine wp_iload (pc' := 76) rfl rfl rfl ?_
          refine wp_bipush (a := -9) (pc' := 78) rfl rfl rfl ?_
          refine wp_icmp_eq (pc' := 81) (pt := 98) rfl rfl rfl (fun q_6 => ?_) (fun q_6 => ?_)
          · skip
            refine wp_iinc (pc' := 101) rfl rfl rfl (inc_id (by omega) (by omega)) rfl ?_
            dsimp only [lset, lset2, List.set, List.getElem?_cons_zero, List.getElem?_cons_succ]
            refine wp_goto (pc' := 26) rfl rfl ?_
            have hv : vOfM vt bo way (fVote (w 100 11) (w 100 12) (w 107) (fun i => w 109 (3 + i)) cell back) i = (sVote (w 100 11) (w 100 12) (w 107 i) (w 109 (3 + i)) cell back) := by
              unfold vOfM
              first | rw [if_pos (by assumption)] | rw [if_neg (by assumption), if_pos (by assumption)] | rw [if_neg (by assumption), if_neg (by assumption)]
              try rfl
            refine ih _ _ _ (by omega) (by omega) hS (fun j a b => ?_)
            rw [sumI_s _ hi0, hz j a b]
            unfold fHeap
            rw [hv]
            split <;> omega
          · skip
            refine wp_aload_n (pc' := 82) rfl rfl rfl (by decide) ?_
            refine wp_getR (r' := 113) (ci := 10) (k0 := 22) (pc' := 85) rfl rfl (by decide) (by first | assumption | rfl) (hT.get 111 rfl) ?_
            refine wp_iload (pc' := 87) rfl rfl rfl ?_
            refine wp_dup2 (pc' := 88) rfl rfl ?_
            refine wp_iaload (pc' := 89) rfl rfl (by first | assumption | rfl) (by omega) ?_
            refine wp_aload_n (pc' := 90) rfl rfl rfl (by decide) ?_
            refine wp_getR (r' := 108) (ci := 10) (k0 := 14) (pc' := 93) rfl rfl (by decide) (by first | assumption | rfl) (hT.get 106 rfl) ?_
            refine wp_iload (pc' := 95) rfl rfl rfl ?_
            refine wp_iaload (pc' := 96) rfl rfl (by first | assumption | rfl) (by omega) ?_
            refine wp_iadd (pc' := 97) rfl rfl (by first | exact w32_id (by omega) (by omega) | rfl) ?_
            refine wp_iastore (pc' := 98) rfl rfl (by first | assumption | rfl) (by omega) ?_
            refine wp_iinc (pc' := 101) rfl rfl rfl (inc_id (by omega) (by omega)) rfl ?_
            dsimp only [lset, lset2, List.set, List.getElem?_cons_zero, List.getElem?_cons_succ]
            refine wp_goto (pc' := 26) rfl rfl ?_
            have hv : vOfM vt bo way (fVote (w 100 11) (w 100 12) (w 107) (fun i => w 109 (3 + i)) cell back) i = (sVote (w 100 11) (w 100 12) (w 107 i) (w 109 (3 + i)) cell back) := by
              unfold vOfM
              first | rw [if_pos (by assumption)] | rw [if_neg (by assumption), if_pos (by assumption)] | rw [if_neg (by assumption), if_neg (by assumption)]
              try rfl
            refine ih _ _ _ (by omega) (by omega) (hS.put (by decide)) (fun j a b => ?_)
            rw [sumI_s _ hi0]
            have hzj := hz j a b
            by_cases hj : j = (sVote (w 100 11) (w 100 12) (w 107 i) (w 109 (3 + i)) cell back)
            · have hq := hbb j a b
              rw [hj] at hzj hq
              rw [hj, up_eq, w32_id (by omega) (by omega), hzj]
              unfold fHeap
              rw [hv]
              split <;> omega
            · rw [up_at hj, hzj]
              unfold fHeap
              rw [hv]
              split <;> omega
        · skip
          rw [hv1, hw1]
          clear hv1 hw1 v1 w2
          dsimp only [Option.toList, List.cons_append, List.nil_append, List.append_nil]
          refine wp_if_eq (pc' := 59) (pt := 70) rfl rfl rfl (fun q_7 => ?_) (fun q_7 => absurd (by decide) q_7)
          refine wp_bipush (a := -9) (pc' := 72) rfl rfl rfl ?_
          refine wp_istore (pc' := 74) rfl rfl (Nat.le_of_ble_eq_true rfl) rfl ?_
          dsimp only [lset, lset2, List.set, List.getElem?_cons_zero, List.getElem?_cons_succ]
          refine wp_iload (pc' := 76) rfl rfl rfl ?_
          refine wp_bipush (a := -9) (pc' := 78) rfl rfl rfl ?_
          refine wp_icmp_eq (pc' := 81) (pt := 98) rfl rfl rfl (fun q_8 => ?_) (fun q_8 => absurd (by decide) q_8)
          refine wp_iinc (pc' := 101) rfl rfl rfl (inc_id (by omega) (by omega)) rfl ?_
          dsimp only [lset, lset2, List.set, List.getElem?_cons_zero, List.getElem?_cons_succ]
          refine wp_goto (pc' := 26) rfl rfl ?_
          have hv : vOfM vt bo way (fVote (w 100 11) (w 100 12) (w 107) (fun i => w 109 (3 + i)) cell back) i = (-9) := by
            unfold vOfM
            first | rw [if_pos (by assumption)] | rw [if_neg (by assumption), if_pos (by assumption)] | rw [if_neg (by assumption), if_neg (by assumption)]
            try rfl
          refine ih _ _ _ (by omega) (by omega) hS (fun j a b => ?_)
          rw [sumI_s _ hi0, hz j a b]
          unfold fHeap
          rw [hv]
          split <;> omega
set_option maxRecDepth 20000 in
set_option maxHeartbeats 4000000 in
theorem c_Mod_layCounts {w : Hp} {d : Nat} {cell back vt bo way : Int} (hT0 : Stc w) (hp : MdOK w) (hx : Cel (w 100 11) (w 100 12) cell) (hwy : 0 ≤ way ∧ way ≤ 4) : WP SH (d + 5) 178 0 [some (vR 100), some (vI cell), some (vI back), some (vI vt), some (vI bo), some (vI way), none, none] [] w (fun v w' => v = none ∧ Same w w' [113] ∧ ∀ j : Int, 0 ≤ j → j < 5 → w' 113 j = sumI (fHeap (vOfM vt bo way (fVote (w 100 11) (w 100 12) (w 107) (fun i => w 109 (3 + i)) cell back)) (w 108) j) (w 100 10)) := by
  refine wp_iconst (a := 0) (pc' := 1) rfl rfl rfl ?_
  refine wp_istore (pc' := 3) rfl rfl (Nat.le_of_ble_eq_true rfl) rfl ?_
  dsimp only [lset, lset2, List.set, List.getElem?_cons_zero, List.getElem?_cons_succ]
  have hn := hp.2.1
  refine l_lay1 hT0 hp hx hwy (fun w1 hS hz => ?_) 5 0 w (by omega) (by omega) (Same.rf _ _) (fun j a b => by omega)
  refine wp_iconst (a := 0) (pc' := 24) rfl rfl rfl ?_
  refine wp_istore (pc' := 26) rfl rfl (Nat.le_of_ble_eq_true rfl) rfl ?_
  exact l_lay2 hT0 hp hx hwy (w 100 10).toNat 0 w1 _ (by omega) (by omega) hS (fun j a b => by rw [hz j a b]; rfl)
theorem every_in {n : Int} (h : 1 ≤ n ∧ n ≤ 6) : 1 ≤ iShl 1 n - 1 ∧ iShl 1 n - 1 ≤ 63 := by
  have : n = 1 ∨ n = 2 ∨ n = 3 ∨ n = 4 ∨ n = 5 ∨ n = 6 := by omega
  rcases this with rfl | rfl | rfl | rfl | rfl | rfl <;> decide
theorem every_bit {n i : Int} (h : 1 ≤ n ∧ n ≤ 6) (hi : 0 ≤ i ∧ i < n) : bit (iShl 1 n - 1) i = 1 := by
  have h1 : n = 1 ∨ n = 2 ∨ n = 3 ∨ n = 4 ∨ n = 5 ∨ n = 6 := by omega
  have h2 : i = 0 ∨ i = 1 ∨ i = 2 ∨ i = 3 ∨ i = 4 ∨ i = 5 := by omega
  rcases h1 with rfl | rfl | rfl | rfl | rfl | rfl <;> rcases h2 with rfl | rfl | rfl | rfl | rfl | rfl <;> first | decide | omega
set_option maxRecDepth 20000 in
set_option maxHeartbeats 4000000 in
theorem c_Mod_everybody {w : Hp} {d : Nat} (hn : 1 ≤ w 100 10 ∧ w 100 10 ≤ 6) : WP SH (d + 0) 180 0 [some (vR 100)] [] w (fun v w' => v = some (vI (iShl 1 (w 100 10) - 1)) ∧ w' = w) := by
  have hev := every_in hn
  refine wp_iconst (a := 1) (pc' := 1) rfl rfl rfl ?_
  refine wp_aload_n (pc' := 2) rfl rfl rfl (by decide) ?_
  refine wp_getI (ci := 10) (k0 := 10) (pc' := 5) rfl rfl (by decide) (by first | assumption | rfl) ?_
  refine wp_ishl (pc' := 6) rfl rfl rfl ?_
  refine wp_iconst (a := 1) (pc' := 7) rfl rfl rfl ?_
  refine wp_isub (pc' := 8) rfl rfl (by first | exact w32_id (by omega) (by omega) | rfl) ?_
  refine wp_ret rfl rfl rfl ?_
  exact ⟨rfl, rfl⟩
theorem vOfM_all {n way : Int} {C : Int → Int} {G : Int → Int} (hn : 1 ≤ n ∧ n ≤ 6) (j : Int) : sumI (fHeap (vOfM (iShl 1 n - 1) 0 way C) G j) n = sumI (fHeap C G j) n := by
  refine sumI_congr (fun i a b => ?_)
  have e : vOfM (iShl 1 n - 1) 0 way C i = C i := by
    unfold vOfM
    rw [if_neg (fun z => by rw [bit0 (by omega)] at z; omega), if_pos (every_bit hn ⟨a, b⟩)]
  unfold fHeap
  rw [e]
set_option maxRecDepth 20000 in
set_option maxHeartbeats 4000000 in
theorem c_Mod_carriedFrom {w : Hp} {d : Nat} {cell back : Int} (hT : Stc w) (hp : MdOK w) (hx : Cel (w 100 11) (w 100 12) cell) : WP SH (d + 6) 181 0 [some (vR 100), some (vI cell), some (vI back)] [] w (fun v w' => v = some (vI (sWin (fun j => sumI (fHeap (fVote (w 100 11) (w 100 12) (w 107) (fun i => w 109 (3 + i)) cell back) (w 108) j) (w 100 10)))) ∧ Same w w' [113] ∧ ∀ j : Int, 0 ≤ j → j < 5 → w' 113 j = (fun j => sumI (fHeap (fVote (w 100 11) (w 100 12) (w 107) (fun i => w 109 (3 + i)) cell back) (w 108) j) (w 100 10)) j) := by
  refine wp_aload_n (pc' := 1) rfl rfl rfl (by decide) ?_
  refine wp_iload_n (pc' := 2) rfl rfl rfl ?_
  refine wp_iload_n (pc' := 3) rfl rfl rfl ?_
  refine wp_aload_n (pc' := 4) rfl rfl rfl (by decide) ?_
  refine wp_call (pc' := 7) rfl rfl rfl rfl rfl ⟨Nat.le_of_ble_eq_true rfl, Nat.le_of_ble_eq_true rfl, Nat.le_of_ble_eq_true rfl, Nat.le_of_ble_eq_true rfl, Nat.le_of_ble_eq_true rfl⟩ rfl (c_Mod_everybody hp.2.1) ?_
  intro v1 w1 hq1
  rw [hq1.1, hq1.2]
  clear hq1 v1 w1
  dsimp only [Option.toList, List.cons_append, List.nil_append, List.append_nil]
  refine wp_iconst (a := 0) (pc' := 8) rfl rfl rfl ?_
  refine wp_iconst (a := 0) (pc' := 9) rfl rfl rfl ?_
  refine wp_call (pc' := 12) rfl rfl rfl rfl rfl ⟨Nat.le_of_ble_eq_true rfl, Nat.le_of_ble_eq_true rfl, Nat.le_of_ble_eq_true rfl, Nat.le_of_ble_eq_true rfl, Nat.le_of_ble_eq_true rfl⟩ rfl (c_Mod_layCounts hT hp hx (by decide)) ?_
  rintro v1 w1 ⟨hv1, hS, hz0⟩
  rw [hv1]
  clear hv1 v1
  have hT1 := hT.same hS (by decide)
  have hz : ∀ j : Int, 0 ≤ j → j < 5 → w1 113 j = (fun j => sumI (fHeap (fVote (w 100 11) (w 100 12) (w 107) (fun i => w 109 (3 + i)) cell back) (w 108) j) (w 100 10)) j := fun j a b => by
    rw [hz0 j a b, vOfM_all hp.2.1]
  dsimp only [Option.toList, List.cons_append, List.nil_append, List.append_nil]
  refine wp_aload_n (pc' := 13) rfl rfl rfl (by decide) ?_
  refine wp_call (pc' := 16) rfl rfl rfl rfl rfl ⟨Nat.le_of_ble_eq_true rfl, Nat.le_of_ble_eq_true rfl, Nat.le_of_ble_eq_true rfl, Nat.le_of_ble_eq_true rfl, Nat.le_of_ble_eq_true rfl⟩ rfl (c_Mod_carried hT1) ?_
  intro v1 w2 hq1
  rw [hq1.1, hq1.2]
  clear hq1 v1 w2
  dsimp only [Option.toList, List.cons_append, List.nil_append, List.append_nil]
  refine wp_ret rfl rfl rfl ?_
  refine ⟨congrArg (fun z => some (vI z)) (sWin_congr (fun j a b => hz j a (by omega))), hS, hz⟩
