/-! a vote held, a year aside -/
theorem wSt_pos (f : Int → Int) : ∀ m : Nat, f 0 ≤ f (wSt f m).1 ∧ ((wSt f m).1 ≠ 0 → f 0 < f (wSt f m).1) := by
  intro m
  induction m with
  | zero => exact ⟨by simp [wSt], by simp [wSt]⟩
  | succ m ih =>
    unfold wSt
    split
    · dsimp only
      exact ⟨by omega, fun _ => by omega⟩
    · split
      · exact ih
      · exact ih
theorem sumN_pos {f : Int → Int} : ∀ {n : Nat}, (∀ j : Int, 0 ≤ j → j < n → 0 ≤ f j) → 0 < sumN f n → ∃ j : Int, 0 ≤ j ∧ j < n ∧ 0 < f j := by
  intro n
  induction n with
  | zero => intro _ h; simp [sumN] at h
  | succ n ih =>
    intro h hp
    unfold sumN at hp
    by_cases hn : 0 < f n
    · exact ⟨n, by omega, by omega, hn⟩
    · obtain ⟨j, a, b, c⟩ := ih (fun j a b => h j a (by omega)) (by omega)
      exact ⟨j, a, by omega, c⟩
theorem sumN_nn {f : Int → Int} : ∀ {n : Nat}, (∀ j : Int, 0 ≤ j → j < n → 0 ≤ f j) → 0 ≤ sumN f n := by
  intro n
  induction n with
  | zero => intro _; simp [sumN]
  | succ n ih =>
    intro h
    unfold sumN
    have h1 := ih (fun j a b => h j a (by omega))
    have h2 := h n (by omega) (by omega)
    omega
/-- the heaps of a land at a cell, the way that carries there -/
def fHp (c l n : Int) (K H G : Int → Int) (cell back : Int) : Int → Int := fun j => sumI (fHeap (fVote c l K H cell back) G j) n
def sWay (c l n : Int) (K H G : Int → Int) (cell back : Int) : Int := sWin (fHp c l n K H G cell back)
theorem sWay_ok {c l n cell back : Int} {K H G : Int → Int} (hc : CL c l) (hx : Cel c l cell) (hg : ∀ j : Int, 0 ≤ j → j < n → 1 ≤ G j ∧ G j ≤ 9) : 0 ≤ sWay c l n K H G cell back ∧ sWay c l n K H G cell back ≤ 4 ∧ sBeside c l cell (sWay c l n K H G cell back) ≠ -1 := by
  have h1 := sWin_in (fHp c l n K H G cell back)
  refine ⟨h1.1, h1.2, ?_⟩
  have hz : sBeside c l cell 0 ≠ -1 := by rw [beside0]; have := hx.1; omega
  unfold sWay sWin
  have h2 := wSt_pos (fHp c l n K H G cell back) 4
  have h3 := wSt_ok (fHp c l n K H G cell back) 4
  split
  · by_cases h0 : (wSt (fHp c l n K H G cell back) 4).1 = 0
    · rw [h0]
      exact hz
    · have h4 := h2.2 h0
      have hnn : ∀ way : Int, ∀ j : Int, 0 ≤ j → j < (n.toNat : Int) → 0 ≤ fHeap (fVote c l K H cell back) G way j := fun way j a b => by
        have := hg j a (by omega)
        unfold fHeap
        split <;> omega
      have h5 : 0 ≤ fHp c l n K H G cell back 0 := sumN_nn (hnn 0)
      have h6 : 0 < sumN (fHeap (fVote c l K H cell back) G (wSt (fHp c l n K H G cell back) 4).1) n.toNat := by
        have : fHp c l n K H G cell back (wSt (fHp c l n K H G cell back) 4).1 = sumN (fHeap (fVote c l K H cell back) G (wSt (fHp c l n K H G cell back) 4).1) n.toNat := rfl
        omega
      obtain ⟨j, a, b, hj⟩ := sumN_pos (hnn _) h6
      unfold fHeap at hj
      split at hj
      · rename_i hv
        have h7 := @sVote_in c l (K j) (H j) cell back hc hx
        unfold fVote at hv
        rcases h7 with h7 | h7
        · omega
        · rw [hv] at h7
          exact h7.2.2
      · omega
  · exact hz
theorem fHp_congr {c l n cell back : Int} {K K' H H' G G' : Int → Int} (h : ∀ j : Int, 0 ≤ j → j < n → K j = K' j ∧ H j = H' j ∧ G j = G' j) (j : Int) : fHp c l n K H G cell back j = fHp c l n K' H' G' cell back j := by
  unfold fHp
  refine sumI_congr (fun i a b => ?_)
  obtain ⟨h1, h2, h3⟩ := h i a b
  unfold fHeap fVote
  rw [h1, h2, h3]
theorem sWay_congr {c l n cell back : Int} {K K' H H' G G' : Int → Int} (h : ∀ j : Int, 0 ≤ j → j < n → K j = K' j ∧ H j = H' j ∧ G j = G' j) : sWay c l n K H G cell back = sWay c l n K' H' G' cell back := by
  unfold sWay
  exact sWin_congr (fun j _ _ => fHp_congr h j)
set_option maxRecDepth 20000 in
set_option maxHeartbeats 4000000 in
theorem l_hold {w : Hp} {d : Nat} {cell back : Int} (hT0 : Stc w) (hr0 : ROw w) (hp : LnOK w) (hx : Cel (w 3 0) (w 3 1) cell) {Q : Option PV → Hp → Prop} (K : ∀ w1 : Hp, Same w w1 [24] → (∀ j : Int, 0 ≤ j → j < w 3 2 → w1 24 j = (fVote (w 3 0) (w 3 1) (w 4) (w 5) cell back) j) → WP SH (d + 4) 2 33 [some (vR 23), some (vR 3), some (vI cell), some (vI back), some (vI (w 3 2))] [] w1 Q) : ∀ (k : Nat) (i : Int) (w1 : Hp), 0 ≤ i → i + k = w 3 2 → Same w w1 [24] → (∀ j : Int, 0 ≤ j → j < i → w1 24 j = (fVote (w 3 0) (w 3 1) (w 4) (w 5) cell back) j) → WP SH (d + 4) 2 3 [some (vR 23), some (vR 3), some (vI cell), some (vI back), some (vI i)] [] w1 Q := by
  intro k
  induction k with
  | zero =>
    intro i w1 hi0 hik hS hz
    have hT := hT0.same hS (by decide)
    have hr := hr0.same hS (by decide)
    have e3 : w1 3 = w 3 := hS 3 (by decide)
    have e4 : w1 4 = w 4 := hS 4 (by decide)
    have e5 : w1 5 = w 5 := hS 5 (by decide)
    have e32 : w1 3 2 = w 3 2 := by rw [e3]
    obtain ⟨hc, hn, hall⟩ := id hp
    have hp1 := hp.same hS (by decide)
    have hcx : Cel (w1 3 0) (w1 3 1) cell := by rw [e3]; exact hx
    refine wp_iload (pc' := 5) rfl rfl rfl ?_
    refine wp_aload_n (pc' := 6) rfl rfl rfl (by decide) ?_
    refine wp_getI (ci := 3) (k0 := 2) (pc' := 9) rfl rfl (by decide) (by first | assumption | rfl) ?_
    refine wp_icmp_ge (pc' := 12) (pt := 33) rfl rfl rfl (fun q_1 => ?_) (fun q_1 => ?_)
    · skip
      obtain rfl : i = w 3 2 := by omega
      exact K w1 hS hz
    · skip
      exfalso; omega
  | succ k ih =>
    intro i w1 hi0 hik hS hz
    have hT := hT0.same hS (by decide)
    have hr := hr0.same hS (by decide)
    have e3 : w1 3 = w 3 := hS 3 (by decide)
    have e4 : w1 4 = w 4 := hS 4 (by decide)
    have e5 : w1 5 = w 5 := hS 5 (by decide)
    have e32 : w1 3 2 = w 3 2 := by rw [e3]
    obtain ⟨hc, hn, hall⟩ := id hp
    have hp1 := hp.same hS (by decide)
    have hcx : Cel (w1 3 0) (w1 3 1) cell := by rw [e3]; exact hx
    refine wp_iload (pc' := 5) rfl rfl rfl ?_
    refine wp_aload_n (pc' := 6) rfl rfl rfl (by decide) ?_
    refine wp_getI (ci := 3) (k0 := 2) (pc' := 9) rfl rfl (by decide) (by first | assumption | rfl) ?_
    refine wp_icmp_ge (pc' := 12) (pt := 33) rfl rfl rfl (fun q_1 => ?_) (fun q_1 => ?_)
    · skip
      exfalso; omega
    · skip
      have hai := hp1.2.2 i hi0 (by omega)
      refine wp_aload_n (pc' := 13) rfl rfl rfl (by decide) ?_
      refine wp_getR (r' := 24) (ci := 0) (k0 := 0) (pc' := 16) rfl rfl (by decide) (by first | assumption | rfl) (hT.get 42 rfl) ?_
      refine wp_iload (pc' := 18) rfl rfl rfl ?_
      refine wp_aload_n (pc' := 19) rfl rfl rfl (by decide) ?_
      refine wp_iload (pc' := 21) rfl rfl rfl ?_
      refine wp_iload_n (pc' := 22) rfl rfl rfl ?_
      refine wp_iload_n (pc' := 23) rfl rfl rfl ?_
      refine wp_call (pc' := 26) rfl rfl rfl rfl rfl ⟨Nat.le_of_ble_eq_true rfl, Nat.le_of_ble_eq_true rfl, Nat.le_of_ble_eq_true rfl, Nat.le_of_ble_eq_true rfl, Nat.le_of_ble_eq_true rfl⟩ rfl (c_Ballot_choiceOf (w := w1) hp1.1 hr hT (by omega) hai.1 hcx hai.2.1) ?_
      intro v1 w2 hq1
      rw [hq1.1, hq1.2]
      clear hq1 v1 w2
      rw [e3, e4, e5]
      dsimp only [Option.toList, List.cons_append, List.nil_append, List.append_nil]
      refine wp_iastore (pc' := 27) rfl rfl (by first | assumption | rfl) (by omega) ?_
      refine wp_iinc (pc' := 30) rfl rfl rfl (inc_id (by omega) (by omega)) rfl ?_
      dsimp only [lset, lset2, List.set, List.getElem?_cons_zero, List.getElem?_cons_succ]
      refine wp_goto (pc' := 3) rfl rfl ?_
      refine ih _ _ (by omega) (by omega) (hS.put (by decide)) (fun j a b => ?_)
      by_cases hj : j = i
      · rw [hj, up_eq]; rfl
      · rw [up_at hj]; exact hz j a (by omega)
set_option maxRecDepth 20000 in
set_option maxHeartbeats 4000000 in
theorem c_Ballot_hold {w : Hp} {d : Nat} {cell back : Int} (hT0 : Stc w) (hr0 : ROw w) (hp : LnOK w) (hx : Cel (w 3 0) (w 3 1) cell) : WP SH (d + 4) 2 0 [some (vR 23), some (vR 3), some (vI cell), some (vI back), none] [] w (fun v w' => v = none ∧ Same w w' [24, 25] ∧ (∀ j : Int, 0 ≤ j → j < w 3 2 → w' 24 j = (fVote (w 3 0) (w 3 1) (w 4) (w 5) cell back) j) ∧ ∀ j : Int, 0 ≤ j → j < 5 → w' 25 j = fHp (w 3 0) (w 3 1) (w 3 2) (w 4) (w 5) (w 6) cell back j) := by
  refine wp_iconst (a := 0) (pc' := 1) rfl rfl rfl ?_
  refine wp_istore (pc' := 3) rfl rfl (Nat.le_of_ble_eq_true rfl) rfl ?_
  dsimp only [lset, lset2, List.set, List.getElem?_cons_zero, List.getElem?_cons_succ]
  have hn := hp.2.1
  refine l_hold hT0 hr0 hp hx (fun w1 hS hz => ?_) (w 3 2).toNat 0 w (by omega) (by omega) (Same.rf _ _) (fun j a b => by omega)
  have hT := hT0.same hS (by decide)
  have hp1 := hp.same hS (by decide)
  have e32 : w1 3 2 = w 3 2 := by rw [hS 3 (by decide)]
  have e6 : w1 6 = w 6 := hS 6 (by decide)
  refine wp_aload_n (pc' := 34) rfl rfl rfl (by decide) ?_
  refine wp_aload_n (pc' := 35) rfl rfl rfl (by decide) ?_
  refine wp_iconst (a := 0) (pc' := 36) rfl rfl rfl ?_
  refine wp_bipush (a := -9) (pc' := 38) rfl rfl rfl ?_
  refine wp_call (pc' := 41) rfl rfl rfl rfl rfl ⟨Nat.le_of_ble_eq_true rfl, Nat.le_of_ble_eq_true rfl, Nat.le_of_ble_eq_true rfl, Nat.le_of_ble_eq_true rfl, Nat.le_of_ble_eq_true rfl⟩ rfl (c_Ballot_heap (w := w1) hT hp1.2.1 (fun j a b => (hp1.2.2 j a b).2.2)) ?_
  rintro v1 w2 ⟨hv1, hS2, hz2⟩
  rw [hv1]
  clear hv1 v1
  dsimp only [Option.toList, List.cons_append, List.nil_append, List.append_nil]
  refine wp_ret rfl rfl rfl ?_
  exact ⟨rfl, (hS.mono (by decide)).tr (hS2.mono (by decide)), fun j a b => by rw [hS2 24 (by decide)]; exact hz j a b, fun j a b => by
    rw [hz2 j a b]
    unfold fHp
    rw [e32, e6]
    exact sumI_congr (fun i p q => by unfold fHeap vOf; rw [if_pos (bit0 (by omega)), hz i p q])⟩
