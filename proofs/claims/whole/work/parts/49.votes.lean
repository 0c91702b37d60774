/-! a heap that a question has changed; votes -/
theorem vw {w u : Hp} (hI : Inv w) (hn : w 3 2 ≠ 0) (hS : SameF w u LQ FQ) : Stc u ∧ ROw u ∧ LnOK u ∧ MdOK u ∧ u 3 = w 3 ∧ u 4 = w 4 ∧ u 5 = w 5 ∧ u 6 = w 6 ∧ u 100 11 = w 3 0 ∧ u 100 12 = w 3 1 ∧ u 100 10 = w 3 2 ∧ u 107 = w 107 ∧ u 108 = w 108 ∧ u 109 = w 109 ∧ Cel (u 100 11) (u 100 12) (u 109 0) := by
  obtain ⟨hn25, b11, b12, b10, hn6, hem, m0, m1, m2, m23, hyr, hdd, hpre⟩ := hI.base
  have hpr := hpre hn
  have e3 : u 3 = w 3 := hS.cell 3 (by decide) (by decide)
  have e4 : u 4 = w 4 := hS.cell 4 (by decide) (by decide)
  have e5 : u 5 = w 5 := hS.cell 5 (by decide) (by decide)
  have e6 : u 6 = w 6 := hS.cell 6 (by decide) (by decide)
  have f11 : u 100 11 = w 100 11 := hS 100 11 (by decide) (by decide)
  have f12 : u 100 12 = w 100 12 := hS 100 12 (by decide) (by decide)
  have f10 : u 100 10 = w 100 10 := hS 100 10 (by decide) (by decide)
  have f7 : u 107 = w 107 := hS.cell 107 (by decide) (by decide)
  have f8 : u 108 = w 108 := hS.cell 108 (by decide) (by decide)
  have f9 : u 109 = w 109 := hS.cell 109 (by decide) (by decide)
  refine ⟨hI.1.sameF hS (by decide), ?_, ?_, ?_, e3, e4, e5, e6, f11.trans b11, f12.trans b12, f10.trans b10, f7, f8, f9, ?_⟩
  · have h2 := hI.2.1
    unfold ROw at h2 ⊢
    rw [hS.cell (-3) (by decide) (by decide), hS.cell (-4) (by decide) (by decide), hS.cell (-5) (by decide) (by decide)]
    exact h2
  · unfold LnOK
    rw [e3, e4, e5, e6]
    exact hpr.1
  · unfold MdOK
    rw [f11, f12, f10, f7, f8, f9]
    exact hpr.2.1
  · rw [f11, f12, f9, b11, b12, m0]
    exact hpr.2.2.1
/-- the set of the j below m with f j = 1 -/
def orN (f : Int → Int) : Nat → Int
  | 0 => 0
  | m + 1 => iOr (orN f m) (if f m = 1 then iShl 1 m else 0)
theorem orN_congr {f g : Int → Int} : ∀ {m : Nat}, (∀ j : Int, 0 ≤ j → j < m → f j = g j) → orN f m = orN g m := by
  intro m
  induction m with
  | zero => intro _; rfl
  | succ m ih =>
    intro h
    unfold orN
    rw [ih (fun j a b => h j a (by omega)), h m (by omega) (by omega)]
theorem fVote_congr {c l cell back j : Int} {K K' H H' : Int → Int} (h1 : K j = K' j) (h2 : H j = H' j) : fVote c l K H cell back j = fVote c l K' H' cell back j := by
  unfold fVote
  rw [h1, h2]
def fIs (V : Int → Int) (x : Int) : Int → Int := fun i => if V i = x then 1 else 0
set_option maxRecDepth 20000 in
set_option maxHeartbeats 4000000 in
theorem l_votersFor {w : Hp} {d : Nat} {way : Int} (hT : Stc w) (hn : 0 ≤ w 3 2 ∧ w 3 2 ≤ 6) : ∀ (k m : Nat) (s y : Int), y = m → m + k = (w 3 2).toNat → s = orN (fIs (w 24) way) m → WP SH d 7 5 [some (vR 23), some (vR 3), some (vI way), some (vI s), some (vI y)] [] w (fun v w' => v = some (vI (orN (fIs (w 24) way) (w 3 2).toNat)) ∧ w' = w) := by
  intro k
  induction k with
  | zero =>
    intro m s y hy hmk hs
    refine wp_iload (pc' := 7) rfl rfl rfl ?_
    refine wp_aload_n (pc' := 8) rfl rfl rfl (by decide) ?_
    refine wp_getI (ci := 3) (k0 := 2) (pc' := 11) rfl rfl (by decide) (by first | assumption | rfl) ?_
    refine wp_icmp_ge (pc' := 14) (pt := 42) rfl rfl rfl (fun q_1 => ?_) (fun q_1 => ?_)
    · skip
      refine wp_iload_n (pc' := 43) rfl rfl rfl ?_
      refine wp_ret rfl rfl rfl ?_
      obtain rfl : m = (w 3 2).toNat := by omega
      exact ⟨by rw [hs], rfl⟩
    · skip
      exfalso; omega
  | succ k ih =>
    intro m s y hy hmk hs
    refine wp_iload (pc' := 7) rfl rfl rfl ?_
    refine wp_aload_n (pc' := 8) rfl rfl rfl (by decide) ?_
    refine wp_getI (ci := 3) (k0 := 2) (pc' := 11) rfl rfl (by decide) (by first | assumption | rfl) ?_
    refine wp_icmp_ge (pc' := 14) (pt := 42) rfl rfl rfl (fun q_1 => ?_) (fun q_1 => ?_)
    · skip
      exfalso; omega
    · skip
      refine wp_iload_n (pc' := 15) rfl rfl rfl ?_
      refine wp_aload_n (pc' := 16) rfl rfl rfl (by decide) ?_
      refine wp_getR (r' := 24) (ci := 0) (k0 := 0) (pc' := 19) rfl rfl (by decide) (by first | assumption | rfl) (hT.get 42 rfl) ?_
      refine wp_iload (pc' := 21) rfl rfl rfl ?_
      refine wp_iaload (pc' := 22) rfl rfl (by first | assumption | rfl) (by omega) ?_
      refine wp_iload_n (pc' := 23) rfl rfl rfl ?_
      refine wp_icmp_ne (pc' := 26) (pt := 33) rfl rfl rfl (fun q_2 => ?_) (fun q_2 => ?_)
      · skip
        refine wp_iconst (a := 0) (pc' := 34) rfl rfl rfl ?_
        refine wp_ior (pc' := 35) rfl rfl rfl ?_
        refine wp_istore_n (pc' := 36) rfl rfl (Nat.le_of_ble_eq_true rfl) rfl ?_
        dsimp only [lset, lset2, List.set, List.getElem?_cons_zero, List.getElem?_cons_succ]
        refine wp_iinc (pc' := 39) rfl rfl rfl (inc_id (by omega) (by omega)) rfl ?_
        dsimp only [lset, lset2, List.set, List.getElem?_cons_zero, List.getElem?_cons_succ]
        refine wp_goto (pc' := 5) rfl rfl ?_
        exact ih (m + 1) _ _ (by omega) (by omega) (by rw [orN, ← hs]; subst hy; unfold fIs; split <;> first | rfl | (exfalso; omega))
      · skip
        refine wp_iconst (a := 1) (pc' := 27) rfl rfl rfl ?_
        refine wp_iload (pc' := 29) rfl rfl rfl ?_
        refine wp_ishl (pc' := 30) rfl rfl rfl ?_
        refine wp_goto (pc' := 34) rfl rfl ?_
        refine wp_ior (pc' := 35) rfl rfl rfl ?_
        refine wp_istore_n (pc' := 36) rfl rfl (Nat.le_of_ble_eq_true rfl) rfl ?_
        dsimp only [lset, lset2, List.set, List.getElem?_cons_zero, List.getElem?_cons_succ]
        refine wp_iinc (pc' := 39) rfl rfl rfl (inc_id (by omega) (by omega)) rfl ?_
        dsimp only [lset, lset2, List.set, List.getElem?_cons_zero, List.getElem?_cons_succ]
        refine wp_goto (pc' := 5) rfl rfl ?_
        exact ih (m + 1) _ _ (by omega) (by omega) (by rw [orN, ← hs]; subst hy; unfold fIs; split <;> first | rfl | (exfalso; omega))
set_option maxRecDepth 20000 in
set_option maxHeartbeats 4000000 in
theorem c_Ballot_votersFor {w : Hp} {d : Nat} {way : Int} (hT : Stc w) (hn : 0 ≤ w 3 2 ∧ w 3 2 ≤ 6) : WP SH (d + 0) 7 0 [some (vR 23), some (vR 3), some (vI way), none, none] [] w (fun v w' => v = some (vI (orN (fIs (w 24) way) (w 3 2).toNat)) ∧ w' = w) := by
  refine wp_iconst (a := 0) (pc' := 1) rfl rfl rfl ?_
  refine wp_istore_n (pc' := 2) rfl rfl (Nat.le_of_ble_eq_true rfl) rfl ?_
  dsimp only [lset, lset2, List.set, List.getElem?_cons_zero, List.getElem?_cons_succ]
  refine wp_iconst (a := 0) (pc' := 3) rfl rfl rfl ?_
  refine wp_istore (pc' := 5) rfl rfl (Nat.le_of_ble_eq_true rfl) rfl ?_
  dsimp only [lset, lset2, List.set, List.getElem?_cons_zero, List.getElem?_cons_succ]
  exact l_votersFor hT hn (w 3 2).toNat 0 _ _ rfl (by omega) rfl
set_option maxRecDepth 20000 in
set_option maxHeartbeats 4000000 in
theorem l_Mvotes {w : Hp} {d : Nat} {way x2 : Int} {Q : Option PV → Hp → Prop} (hT : Stc w) (hp : MdOK w) (hx : Cel (w 100 11) (w 100 12) (w 109 0)) (K : WP SH (d + 5) 198 70 [some (vR 100), some (vI way), some (vI x2), some (vI (orN (fIs (fVote (w 100 11) (w 100 12) (w 107) (fun i => w 109 (3 + i)) (w 109 0) (w 109 1)) way) (w 100 10).toNat)), some (vI (w 100 10))] [] w Q) : ∀ (k m : Nat) (s y : Int), y = m → m + k = (w 100 10).toNat → s = orN (fIs (fVote (w 100 11) (w 100 12) (w 107) (fun i => w 109 (3 + i)) (w 109 0) (w 109 1)) way) m → WP SH (d + 5) 198 22 [some (vR 100), some (vI way), some (vI x2), some (vI s), some (vI y)] [] w Q := by
  intro k
  induction k with
  | zero =>
    intro m s y hy hmk hs
    have hn := hp.2.1
    refine wp_iload (pc' := 24) rfl rfl rfl ?_
    refine wp_aload_n (pc' := 25) rfl rfl rfl (by decide) ?_
    refine wp_getI (ci := 10) (k0 := 10) (pc' := 28) rfl rfl (by decide) (by first | assumption | rfl) ?_
    refine wp_icmp_ge (pc' := 31) (pt := 70) rfl rfl rfl (fun q_1 => ?_) (fun q_1 => ?_)
    · skip
      obtain rfl : m = (w 100 10).toNat := by omega
      obtain rfl : y = w 100 10 := by omega
      subst hs
      exact K
    · skip
      exfalso; omega
  | succ k ih =>
    intro m s y hy hmk hs
    have hn := hp.2.1
    refine wp_iload (pc' := 24) rfl rfl rfl ?_
    refine wp_aload_n (pc' := 25) rfl rfl rfl (by decide) ?_
    refine wp_getI (ci := 10) (k0 := 10) (pc' := 28) rfl rfl (by decide) (by first | assumption | rfl) ?_
    refine wp_icmp_ge (pc' := 31) (pt := 70) rfl rfl rfl (fun q_1 => ?_) (fun q_1 => ?_)
    · skip
      exfalso; omega
    · skip
      refine wp_iload_n (pc' := 32) rfl rfl rfl ?_
      refine wp_aload_n (pc' := 33) rfl rfl rfl (by decide) ?_
      refine wp_iload (pc' := 35) rfl rfl rfl ?_
      refine wp_aload_n (pc' := 36) rfl rfl rfl (by decide) ?_
      refine wp_getR (r' := 109) (ci := 10) (k0 := 15) (pc' := 39) rfl rfl (by decide) (by first | assumption | rfl) (hT.get 107 rfl) ?_
      refine wp_iconst (a := 0) (pc' := 40) rfl rfl rfl ?_
      refine wp_iaload (pc' := 41) rfl rfl (by first | assumption | rfl) (by omega) ?_
      refine wp_aload_n (pc' := 42) rfl rfl rfl (by decide) ?_
      refine wp_getR (r' := 109) (ci := 10) (k0 := 15) (pc' := 45) rfl rfl (by decide) (by first | assumption | rfl) (hT.get 107 rfl) ?_
      refine wp_iconst (a := 1) (pc' := 46) rfl rfl rfl ?_
      refine wp_iaload (pc' := 47) rfl rfl (by first | assumption | rfl) (by omega) ?_
      refine wp_call (pc' := 50) rfl rfl rfl rfl rfl ⟨Nat.le_of_ble_eq_true rfl, Nat.le_of_ble_eq_true rfl, Nat.le_of_ble_eq_true rfl, Nat.le_of_ble_eq_true rfl, Nat.le_of_ble_eq_true rfl⟩ rfl (c_Mod_voteOn hp.1 hT (by omega) hx (hp.2.2 y (by omega) (by omega)).2.1) ?_
      intro v1 w9 hq1
      rw [hq1.1, hq1.2]
      clear hq1 v1 w9
      dsimp only [Option.toList, List.cons_append, List.nil_append, List.append_nil]
      refine wp_iload_n (pc' := 51) rfl rfl rfl ?_
      refine wp_icmp_ne (pc' := 54) (pt := 61) rfl rfl rfl (fun q_2 => ?_) (fun q_2 => ?_)
      · skip
        refine wp_iconst (a := 0) (pc' := 62) rfl rfl rfl ?_
        refine wp_ior (pc' := 63) rfl rfl rfl ?_
        refine wp_istore_n (pc' := 64) rfl rfl (Nat.le_of_ble_eq_true rfl) rfl ?_
        dsimp only [lset, lset2, List.set, List.getElem?_cons_zero, List.getElem?_cons_succ]
        refine wp_iinc (pc' := 67) rfl rfl rfl (inc_id (by omega) (by omega)) rfl ?_
        dsimp only [lset, lset2, List.set, List.getElem?_cons_zero, List.getElem?_cons_succ]
        refine wp_goto (pc' := 22) rfl rfl ?_
        exact ih (m + 1) _ _ (by omega) (by omega) (by rw [orN, ← hs]; subst hy; unfold fIs; split <;> first | rfl | (exfalso; unfold fVote at *; dsimp only at *; omega))
      · skip
        refine wp_iconst (a := 1) (pc' := 55) rfl rfl rfl ?_
        refine wp_iload (pc' := 57) rfl rfl rfl ?_
        refine wp_ishl (pc' := 58) rfl rfl rfl ?_
        refine wp_goto (pc' := 62) rfl rfl ?_
        refine wp_ior (pc' := 63) rfl rfl rfl ?_
        refine wp_istore_n (pc' := 64) rfl rfl (Nat.le_of_ble_eq_true rfl) rfl ?_
        dsimp only [lset, lset2, List.set, List.getElem?_cons_zero, List.getElem?_cons_succ]
        refine wp_iinc (pc' := 67) rfl rfl rfl (inc_id (by omega) (by omega)) rfl ?_
        dsimp only [lset, lset2, List.set, List.getElem?_cons_zero, List.getElem?_cons_succ]
        refine wp_goto (pc' := 22) rfl rfl ?_
        exact ih (m + 1) _ _ (by omega) (by omega) (by rw [orN, ← hs]; subst hy; unfold fIs; split <;> first | rfl | (exfalso; unfold fVote at *; dsimp only at *; omega))
set_option maxRecDepth 20000 in
set_option maxHeartbeats 4000000 in
theorem p_votes {w : Hp} {d : Nat} {way : Int} (hI : Inv w) : WP SH (d + 9) 99 0 [some (vR 0), some (vI way)] [] w (fun v0 w1 => ∃ a, v0 = some (vI a) ∧ w1 (-2) = w (-2) ∧ WP SH (d + 9) 198 0 [some (vR 100), some (vI way), none, none, none] [] w1 (fun v2 w2 => v2 = some (vI a) ∧ w2 (-2) = w1 (-2) ∧ Inv w2)) := by
  obtain ⟨hT, hRO, hIF, hITo, hIR, hIT, hIL, hIK⟩ := id hI
  obtain ⟨hn25, b11, b12, b10, hn6, hem, m0, m1, m2, m23, hyr, hdd, hpre⟩ := hI.base
  have hmm : w 100 11 * w 100 12 = w 3 0 * w 3 1 := by rw [b11, b12]
  refine wp_iload_n (pc' := 1) rfl rfl rfl ?_
  refine wp_call (pc' := 4) rfl rfl rfl rfl rfl ⟨Nat.le_of_ble_eq_true rfl, Nat.le_of_ble_eq_true rfl, Nat.le_of_ble_eq_true rfl, Nat.le_of_ble_eq_true rfl, Nat.le_of_ble_eq_true rfl⟩ rfl (c_VH_isWay) ?_
  rintro v1 w9 ⟨hw9, ⟨hv1, hway⟩ | ⟨hv1, hway⟩⟩
  · skip
    rw [hv1, hw9]
    clear hv1 hw9 v1 w9
    dsimp only [Option.toList, List.cons_append, List.nil_append, List.append_nil]
    refine wp_if_ne (pc' := 7) (pt := 9) rfl rfl rfl (fun q_1 => ?_) (fun q_1 => absurd (by decide) q_1)
    refine wp_aload_n (pc' := 10) rfl rfl rfl (by decide) ?_
    refine wp_getR (r' := 3) (ci := 9) (k0 := 2) (pc' := 13) rfl rfl (by decide) (by first | assumption | rfl) (hT.get 2 rfl) ?_
    refine wp_call (pc' := 16) rfl rfl rfl rfl rfl ⟨Nat.le_of_ble_eq_true rfl, Nat.le_of_ble_eq_true rfl, Nat.le_of_ble_eq_true rfl, Nat.le_of_ble_eq_true rfl, Nat.le_of_ble_eq_true rfl⟩ rfl (c_Land_isEmpty_3) ?_
    rintro v1 w9 ⟨hw9, ⟨hv1, he⟩ | ⟨hv1, he⟩⟩
    · skip
      rw [hv1, hw9]
      clear hv1 hw9 v1 w9
      dsimp only [Option.toList, List.cons_append, List.nil_append, List.append_nil]
      refine wp_if_eq (pc' := 19) (pt := 22) rfl rfl rfl (fun q_2 => absurd q_2 (by decide)) (fun q_2 => ?_)
      refine wp_bipush (a := -4) (pc' := 21) rfl rfl rfl ?_
      refine wp_ret rfl rfl rfl ?_
      refine ⟨_, rfl, ?_, ?_⟩
      · rfl
      refine wp_aload_n (pc' := 1) rfl rfl rfl (by decide) ?_
      refine wp_iload_n (pc' := 2) rfl rfl rfl ?_
      refine wp_iconst (a := 0) (pc' := 3) rfl rfl rfl ?_
      refine wp_iconst (a := 4) (pc' := 4) rfl rfl rfl ?_
      refine wp_call (pc' := 7) rfl rfl rfl rfl rfl ⟨Nat.le_of_ble_eq_true rfl, Nat.le_of_ble_eq_true rfl, Nat.le_of_ble_eq_true rfl, Nat.le_of_ble_eq_true rfl, Nat.le_of_ble_eq_true rfl⟩ rfl (c_Mod_in) ?_
      rintro v1 w9 ⟨hw9, ⟨hv1, hin⟩ | ⟨hv1, hin⟩⟩
      · skip
        rw [hv1, hw9]
        clear hv1 hw9 v1 w9
        dsimp only [Option.toList, List.cons_append, List.nil_append, List.append_nil]
        refine wp_call (pc' := 10) rfl rfl rfl rfl rfl ⟨Nat.le_of_ble_eq_true rfl, Nat.le_of_ble_eq_true rfl, Nat.le_of_ble_eq_true rfl, Nat.le_of_ble_eq_true rfl, Nat.le_of_ble_eq_true rfl⟩ rfl (c_Mod_need (by decide)) ?_
        rintro v1 w9 ⟨hw9, ⟨hv1, hg1⟩ | ⟨hv1, hg1, hg2⟩ | ⟨hv1, hg1, hg2⟩⟩
        · skip
          rw [hv1, hw9]
          clear hv1 hw9 v1 w9
          dsimp only [Option.toList, List.cons_append, List.nil_append, List.append_nil]
          refine wp_istore_n (pc' := 11) rfl rfl (Nat.le_of_ble_eq_true rfl) rfl ?_
          dsimp only [lset, lset2, List.set, List.getElem?_cons_zero, List.getElem?_cons_succ]
          refine wp_iload_n (pc' := 12) rfl rfl rfl ?_
          refine wp_if_ge (pc' := 15) (pt := 17) rfl rfl rfl (fun q_53 => absurd q_53 (by decide)) (fun q_53 => ?_)
          refine wp_iload_n (pc' := 16) rfl rfl rfl ?_
          refine wp_ret rfl rfl rfl ?_
          first
          | (exfalso; omega)
          | exact ⟨rfl, rfl, hI⟩
        · skip
          rw [hv1, hw9]
          clear hv1 hw9 v1 w9
          dsimp only [Option.toList, List.cons_append, List.nil_append, List.append_nil]
          refine wp_istore_n (pc' := 11) rfl rfl (Nat.le_of_ble_eq_true rfl) rfl ?_
          dsimp only [lset, lset2, List.set, List.getElem?_cons_zero, List.getElem?_cons_succ]
          refine wp_iload_n (pc' := 12) rfl rfl rfl ?_
          refine wp_if_ge (pc' := 15) (pt := 17) rfl rfl rfl (fun q_54 => absurd q_54 (by decide)) (fun q_54 => ?_)
          refine wp_iload_n (pc' := 16) rfl rfl rfl ?_
          refine wp_ret rfl rfl rfl ?_
          first
          | (exfalso; omega)
          | exact ⟨rfl, rfl, hI⟩
        · skip
          rw [hv1, hw9]
          clear hv1 hw9 v1 w9
          dsimp only [Option.toList, List.cons_append, List.nil_append, List.append_nil]
          refine wp_istore_n (pc' := 11) rfl rfl (Nat.le_of_ble_eq_true rfl) rfl ?_
          dsimp only [lset, lset2, List.set, List.getElem?_cons_zero, List.getElem?_cons_succ]
          refine wp_iload_n (pc' := 12) rfl rfl rfl ?_
          refine wp_if_ge (pc' := 15) (pt := 17) rfl rfl rfl (fun q_55 => ?_) (fun q_55 => absurd (by decide) q_55)
          exfalso; omega
      · skip
        rw [hv1, hw9]
        clear hv1 hw9 v1 w9
        dsimp only [Option.toList, List.cons_append, List.nil_append, List.append_nil]
        refine wp_call (pc' := 10) rfl rfl rfl rfl rfl ⟨Nat.le_of_ble_eq_true rfl, Nat.le_of_ble_eq_true rfl, Nat.le_of_ble_eq_true rfl, Nat.le_of_ble_eq_true rfl, Nat.le_of_ble_eq_true rfl⟩ rfl (c_Mod_need (by decide)) ?_
        rintro v1 w9 ⟨hw9, ⟨hv1, hg1⟩ | ⟨hv1, hg1, hg2⟩ | ⟨hv1, hg1, hg2⟩⟩
        · skip
          rw [hv1, hw9]
          clear hv1 hw9 v1 w9
          dsimp only [Option.toList, List.cons_append, List.nil_append, List.append_nil]
          refine wp_istore_n (pc' := 11) rfl rfl (Nat.le_of_ble_eq_true rfl) rfl ?_
          dsimp only [lset, lset2, List.set, List.getElem?_cons_zero, List.getElem?_cons_succ]
          refine wp_iload_n (pc' := 12) rfl rfl rfl ?_
          refine wp_if_ge (pc' := 15) (pt := 17) rfl rfl rfl (fun q_56 => absurd q_56 (by decide)) (fun q_56 => ?_)
          refine wp_iload_n (pc' := 16) rfl rfl rfl ?_
          refine wp_ret rfl rfl rfl ?_
          first
          | (exfalso; omega)
          | exact ⟨rfl, rfl, hI⟩
        · skip
          rw [hv1, hw9]
          clear hv1 hw9 v1 w9
          dsimp only [Option.toList, List.cons_append, List.nil_append, List.append_nil]
          refine wp_istore_n (pc' := 11) rfl rfl (Nat.le_of_ble_eq_true rfl) rfl ?_
          dsimp only [lset, lset2, List.set, List.getElem?_cons_zero, List.getElem?_cons_succ]
          refine wp_iload_n (pc' := 12) rfl rfl rfl ?_
          refine wp_if_ge (pc' := 15) (pt := 17) rfl rfl rfl (fun q_57 => absurd q_57 (by decide)) (fun q_57 => ?_)
          refine wp_iload_n (pc' := 16) rfl rfl rfl ?_
          refine wp_ret rfl rfl rfl ?_
          first
          | (exfalso; omega)
          | exact ⟨rfl, rfl, hI⟩
        · skip
          rw [hv1, hw9]
          clear hv1 hw9 v1 w9
          dsimp only [Option.toList, List.cons_append, List.nil_append, List.append_nil]
          refine wp_istore_n (pc' := 11) rfl rfl (Nat.le_of_ble_eq_true rfl) rfl ?_
          dsimp only [lset, lset2, List.set, List.getElem?_cons_zero, List.getElem?_cons_succ]
          refine wp_iload_n (pc' := 12) rfl rfl rfl ?_
          refine wp_if_ge (pc' := 15) (pt := 17) rfl rfl rfl (fun q_58 => ?_) (fun q_58 => absurd (by decide) q_58)
          exfalso; omega
    · skip
      rw [hv1, hw9]
      clear hv1 hw9 v1 w9
      have hpr := hpre (by omega)
      have hn0 : w 3 2 ≠ 0 := by omega
      dsimp only [Option.toList, List.cons_append, List.nil_append, List.append_nil]
      refine wp_if_eq (pc' := 19) (pt := 22) rfl rfl rfl (fun q_59 => ?_) (fun q_59 => absurd (by decide) q_59)
      refine wp_aload_n (pc' := 23) rfl rfl rfl (by decide) ?_
      refine wp_getR (r' := 23) (ci := 9) (k0 := 6) (pc' := 26) rfl rfl (by decide) (by first | assumption | rfl) (hT.get 6 rfl) ?_
      refine wp_aload_n (pc' := 27) rfl rfl rfl (by decide) ?_
      refine wp_getR (r' := 3) (ci := 9) (k0 := 2) (pc' := 30) rfl rfl (by decide) (by first | assumption | rfl) (hT.get 2 rfl) ?_
      refine wp_aload_n (pc' := 31) rfl rfl rfl (by decide) ?_
      refine wp_getR (r' := 3) (ci := 9) (k0 := 2) (pc' := 34) rfl rfl (by decide) (by first | assumption | rfl) (hT.get 2 rfl) ?_
      refine wp_getI (ci := 3) (k0 := 3) (pc' := 37) rfl rfl (by decide) (by first | assumption | rfl) ?_
      refine wp_aload_n (pc' := 38) rfl rfl rfl (by decide) ?_
      refine wp_getR (r' := 3) (ci := 9) (k0 := 2) (pc' := 41) rfl rfl (by decide) (by first | assumption | rfl) (hT.get 2 rfl) ?_
      refine wp_getI (ci := 3) (k0 := 4) (pc' := 44) rfl rfl (by decide) (by first | assumption | rfl) ?_
      refine wp_call (pc' := 47) rfl rfl rfl rfl rfl ⟨Nat.le_of_ble_eq_true rfl, Nat.le_of_ble_eq_true rfl, Nat.le_of_ble_eq_true rfl, Nat.le_of_ble_eq_true rfl, Nat.le_of_ble_eq_true rfl⟩ rfl (c_Ballot_hold hT hRO hpr.1 hpr.2.2.1) ?_
      rintro v1 w1 ⟨hv1, hS1, hc1, hz1⟩
      rw [hv1]
      clear hv1 v1
      have hQ1 : SameF w w1 LQ FQ := qry (hS1.F []) (by decide) (by decide)
      obtain ⟨hT, hr1, hl1, hm1, e31, e41, e51, e61, g111, g121, g101, g71, g81, g91, hx1⟩ := vw hI hn0 hQ1
      dsimp only [Option.toList, List.cons_append, List.nil_append, List.append_nil]
      refine wp_aload_n (pc' := 48) rfl rfl rfl (by decide) ?_
      refine wp_aload_n (pc' := 49) rfl rfl rfl (by decide) ?_
      refine wp_getR (r' := 23) (ci := 9) (k0 := 6) (pc' := 52) rfl rfl (by decide) (by first | assumption | rfl) (hT.get 6 rfl) ?_
      refine wp_aload_n (pc' := 53) rfl rfl rfl (by decide) ?_
      refine wp_getR (r' := 3) (ci := 9) (k0 := 2) (pc' := 56) rfl rfl (by decide) (by first | assumption | rfl) (hT.get 2 rfl) ?_
      refine wp_iload_n (pc' := 57) rfl rfl rfl ?_
      refine wp_call (pc' := 60) rfl rfl rfl rfl rfl ⟨Nat.le_of_ble_eq_true rfl, Nat.le_of_ble_eq_true rfl, Nat.le_of_ble_eq_true rfl, Nat.le_of_ble_eq_true rfl, Nat.le_of_ble_eq_true rfl⟩ rfl (c_Ballot_votersFor hT (by rw [e31]; omega)) ?_
      intro v1 w9 hq1
      rw [hq1.1, hq1.2]
      clear hq1 v1 w9
      rw [e31, show orN (fIs (w1 24) way) (w 3 2).toNat = (orN (fIs (fVote (w 3 0) (w 3 1) (w 4) (w 5) (w 3 3) (w 3 4)) way) (w 3 2).toNat) from orN_congr (fun j a b => by unfold fIs; rw [hc1 j a (by omega)])]
      dsimp only [Option.toList, List.cons_append, List.nil_append, List.append_nil]
      refine wp_putI (ci := 9) (k0 := 14) (pc' := 63) rfl rfl (by decide) (by first | assumption | rfl) ?_
      have hT := hT.putF (r := 0) (i := 14) (x := (orN (fIs (fVote (w 3 0) (w 3 1) (w 4) (w 5) (w 3 3) (w 3 4)) way) (w 3 2).toNat)) (by decide)
      refine wp_aload_n (pc' := 64) rfl rfl rfl (by decide) ?_
      refine wp_getR (r' := 23) (ci := 9) (k0 := 6) (pc' := 67) rfl rfl (by decide) (by first | assumption | rfl) (hT.get 6 rfl) ?_
      refine wp_getR (r' := 25) (ci := 0) (k0 := 1) (pc' := 70) rfl rfl (by decide) (by first | assumption | rfl) (hT.get 43 rfl) ?_
      refine wp_iload_n (pc' := 71) rfl rfl rfl ?_
      refine wp_iaload (pc' := 72) rfl rfl (by first | assumption | rfl) (by omega) ?_
      refine wp_ret rfl rfl rfl ?_
      refine ⟨_, rfl, ?_, ?_⟩
      · rw [up_ne (by decide), hS1 _ (by decide)]
      obtain ⟨w3, hw3⟩ : ∃ w3, w3 = up w1 0 14 (orN (fIs (fVote (w 3 0) (w 3 1) (w 4) (w 5) (w 3 3) (w 3 4)) way) (w 3 2).toNat) := ⟨_, rfl⟩
      rw [← hw3]
      have hQ3 : SameF w w3 LQ FQ := by rw [hw3]; exact hQ1.put (Or.inr (by decide))
      have e314 : w3 0 14 = (orN (fIs (fVote (w 3 0) (w 3 1) (w 4) (w 5) (w 3 3) (w 3 4)) way) (w 3 2).toNat) := by rw [hw3, up_eq]
      have e325 : w3 25 way = (fHp (w 3 0) (w 3 1) (w 3 2) (w 4) (w 5) (w 6) (w 3 3) (w 3 4)) way := by rw [hw3, up_ne (by decide), hz1 way (by omega) (by omega)]
      obtain ⟨hT, hr3, hl3, hm3, e33, e43, e53, e63, g113, g123, g103, g73, g83, g93, hx3⟩ := vw hI hn0 hQ3
      refine wp_aload_n (pc' := 1) rfl rfl rfl (by decide) ?_
      refine wp_iload_n (pc' := 2) rfl rfl rfl ?_
      refine wp_iconst (a := 0) (pc' := 3) rfl rfl rfl ?_
      refine wp_iconst (a := 4) (pc' := 4) rfl rfl rfl ?_
      refine wp_call (pc' := 7) rfl rfl rfl rfl rfl ⟨Nat.le_of_ble_eq_true rfl, Nat.le_of_ble_eq_true rfl, Nat.le_of_ble_eq_true rfl, Nat.le_of_ble_eq_true rfl, Nat.le_of_ble_eq_true rfl⟩ rfl (c_Mod_in) ?_
      rintro v1 w9 ⟨hw9, ⟨hv1, hin⟩ | ⟨hv1, hin⟩⟩
      · skip
        rw [hv1, hw9]
        clear hv1 hw9 v1 w9
        dsimp only [Option.toList, List.cons_append, List.nil_append, List.append_nil]
        refine wp_call (pc' := 10) rfl rfl rfl rfl rfl ⟨Nat.le_of_ble_eq_true rfl, Nat.le_of_ble_eq_true rfl, Nat.le_of_ble_eq_true rfl, Nat.le_of_ble_eq_true rfl, Nat.le_of_ble_eq_true rfl⟩ rfl (c_Mod_need (by decide)) ?_
        rintro v1 w9 ⟨hw9, ⟨hv1, hg1⟩ | ⟨hv1, hg1, hg2⟩ | ⟨hv1, hg1, hg2⟩⟩
        · skip
          rw [hv1, hw9]
          clear hv1 hw9 v1 w9
          dsimp only [Option.toList, List.cons_append, List.nil_append, List.append_nil]
          refine wp_istore_n (pc' := 11) rfl rfl (Nat.le_of_ble_eq_true rfl) rfl ?_
          dsimp only [lset, lset2, List.set, List.getElem?_cons_zero, List.getElem?_cons_succ]
          refine wp_iload_n (pc' := 12) rfl rfl rfl ?_
          refine wp_if_ge (pc' := 15) (pt := 17) rfl rfl rfl (fun q_110 => absurd q_110 (by decide)) (fun q_110 => ?_)
          refine wp_iload_n (pc' := 16) rfl rfl rfl ?_
          refine wp_ret rfl rfl rfl ?_
          first
          | (exfalso; omega)
          | exact ⟨rfl, rfl, hI⟩
        · skip
          rw [hv1, hw9]
          clear hv1 hw9 v1 w9
          dsimp only [Option.toList, List.cons_append, List.nil_append, List.append_nil]
          refine wp_istore_n (pc' := 11) rfl rfl (Nat.le_of_ble_eq_true rfl) rfl ?_
          dsimp only [lset, lset2, List.set, List.getElem?_cons_zero, List.getElem?_cons_succ]
          refine wp_iload_n (pc' := 12) rfl rfl rfl ?_
          refine wp_if_ge (pc' := 15) (pt := 17) rfl rfl rfl (fun q_111 => absurd q_111 (by decide)) (fun q_111 => ?_)
          refine wp_iload_n (pc' := 16) rfl rfl rfl ?_
          refine wp_ret rfl rfl rfl ?_
          first
          | (exfalso; omega)
          | exact ⟨rfl, rfl, hI⟩
        · skip
          rw [hv1, hw9]
          clear hv1 hw9 v1 w9
          dsimp only [Option.toList, List.cons_append, List.nil_append, List.append_nil]
          refine wp_istore_n (pc' := 11) rfl rfl (Nat.le_of_ble_eq_true rfl) rfl ?_
          dsimp only [lset, lset2, List.set, List.getElem?_cons_zero, List.getElem?_cons_succ]
          refine wp_iload_n (pc' := 12) rfl rfl rfl ?_
          refine wp_if_ge (pc' := 15) (pt := 17) rfl rfl rfl (fun q_112 => ?_) (fun q_112 => absurd (by decide) q_112)
          refine wp_iconst (a := 0) (pc' := 18) rfl rfl rfl ?_
          refine wp_istore_n (pc' := 19) rfl rfl (Nat.le_of_ble_eq_true rfl) rfl ?_
          dsimp only [lset, lset2, List.set, List.getElem?_cons_zero, List.getElem?_cons_succ]
          refine wp_iconst (a := 0) (pc' := 20) rfl rfl rfl ?_
          refine wp_istore (pc' := 22) rfl rfl (Nat.le_of_ble_eq_true rfl) rfl ?_
          dsimp only [lset, lset2, List.set, List.getElem?_cons_zero, List.getElem?_cons_succ]
          refine l_Mvotes hT hm3 hx3 ?_ (w3 100 10).toNat 0 _ _ rfl (by omega) rfl
          refine wp_aload_n (pc' := 71) rfl rfl rfl (by decide) ?_
          refine wp_aload_n (pc' := 72) rfl rfl rfl (by decide) ?_
          refine wp_getR (r' := 109) (ci := 10) (k0 := 15) (pc' := 75) rfl rfl (by decide) (by first | assumption | rfl) (hT.get 107 rfl) ?_
          refine wp_iconst (a := 0) (pc' := 76) rfl rfl rfl ?_
          refine wp_iaload (pc' := 77) rfl rfl (by first | assumption | rfl) (by omega) ?_
          refine wp_aload_n (pc' := 78) rfl rfl rfl (by decide) ?_
          refine wp_getR (r' := 109) (ci := 10) (k0 := 15) (pc' := 81) rfl rfl (by decide) (by first | assumption | rfl) (hT.get 107 rfl) ?_
          refine wp_iconst (a := 1) (pc' := 82) rfl rfl rfl ?_
          refine wp_iaload (pc' := 83) rfl rfl (by first | assumption | rfl) (by omega) ?_
          refine wp_aload_n (pc' := 84) rfl rfl rfl (by decide) ?_
          refine wp_call (pc' := 87) rfl rfl rfl rfl rfl ⟨Nat.le_of_ble_eq_true rfl, Nat.le_of_ble_eq_true rfl, Nat.le_of_ble_eq_true rfl, Nat.le_of_ble_eq_true rfl, Nat.le_of_ble_eq_true rfl⟩ rfl (c_Mod_everybody hm3.2.1) ?_
          intro v1 w9 hq1
          rw [hq1.1, hq1.2]
          clear hq1 v1 w9
          dsimp only [Option.toList, List.cons_append, List.nil_append, List.append_nil]
          refine wp_iconst (a := 0) (pc' := 88) rfl rfl rfl ?_
          refine wp_iconst (a := 0) (pc' := 89) rfl rfl rfl ?_
          refine wp_call (pc' := 92) rfl rfl rfl rfl rfl ⟨Nat.le_of_ble_eq_true rfl, Nat.le_of_ble_eq_true rfl, Nat.le_of_ble_eq_true rfl, Nat.le_of_ble_eq_true rfl, Nat.le_of_ble_eq_true rfl⟩ rfl (c_Mod_layCounts hT hm3 hx3 (by decide)) ?_
          rintro v1 w4 ⟨hv1, hS4, hz4⟩
          rw [hv1]
          clear hv1 v1
          have hz5 : ∀ j : Int, 0 ≤ j → j < 5 → w4 113 j = (fHp (w 3 0) (w 3 1) (w 3 2) (w 4) (w 5) (w 6) (w 3 3) (w 3 4)) j := fun j a b => by
            rw [hz4 j a b, vOfM_all hm3.2.1, g103, g113, g123, g73, g83, g93, m0, m1]
            exact fHp_congr (fun j a b => hpr.2.2.2.2 j a b) j
          have hve : ∀ j : Int, 0 ≤ j → j < w 3 2 → fIs (fVote (w 3 0) (w 3 1) (w 4) (w 5) (w 3 3) (w 3 4)) way j = fIs (fVote (w 3 0) (w 3 1) (w 107) (fun i => w 109 (3 + i)) (w 3 3) (w 3 4)) way j := fun j a b => by
            unfold fIs
            rw [fVote_congr (K := w 107) (H := fun i => w 109 (3 + i)) (K' := w 4) (H' := w 5) (hpr.2.2.2.2 j a b).1 (hpr.2.2.2.2 j a b).2.1]
          have hQ4 : SameF w w4 LQ FQ := hQ3.tr (qry (hS4.F []) (by decide) (by decide))
          have hT := hT.same hS4 (by decide)
          dsimp only [Option.toList, List.cons_append, List.nil_append, List.append_nil]
          refine wp_aload_n (pc' := 93) rfl rfl rfl (by decide) ?_
          refine wp_iload_n (pc' := 94) rfl rfl rfl ?_
          refine wp_aload_n (pc' := 95) rfl rfl rfl (by decide) ?_
          refine wp_getR (r' := 113) (ci := 10) (k0 := 22) (pc' := 98) rfl rfl (by decide) (by first | assumption | rfl) (hT.get 111 rfl) ?_
          refine wp_iload_n (pc' := 99) rfl rfl rfl ?_
          refine wp_iaload (pc' := 100) rfl rfl (by first | assumption | rfl) (by omega) ?_
          refine wp_call (pc' := 103) rfl rfl rfl rfl rfl ⟨Nat.le_of_ble_eq_true rfl, Nat.le_of_ble_eq_true rfl, Nat.le_of_ble_eq_true rfl, Nat.le_of_ble_eq_true rfl, Nat.le_of_ble_eq_true rfl⟩ rfl (c_Mod_tells) ?_
          rintro v1 w6 ⟨hv1, hw6⟩
          rw [hv1]
          clear hv1 v1
          dsimp only [Option.toList, List.cons_append, List.nil_append, List.append_nil]
          refine wp_ret rfl rfl rfl ?_
          refine ⟨by rw [hz5 way (by omega) (by omega), e325], ?_, hI.query (w' := w6) ?_ ?_⟩
          · rw [hw6, up_ne (by decide), hS4 _ (by decide)]
          · rw [hw6]
            exact hQ4.put (Or.inr (by decide))
          · rw [hw6, up_eq, up_ne (by decide), hS4 0 (by decide), e314, g103, g113, g123, g73, g93, m0, m1]
            exact orN_congr (fun j a b => hve j a (by omega))
      · skip
        rw [hv1, hw9]
        clear hv1 hw9 v1 w9
        dsimp only [Option.toList, List.cons_append, List.nil_append, List.append_nil]
        refine wp_call (pc' := 10) rfl rfl rfl rfl rfl ⟨Nat.le_of_ble_eq_true rfl, Nat.le_of_ble_eq_true rfl, Nat.le_of_ble_eq_true rfl, Nat.le_of_ble_eq_true rfl, Nat.le_of_ble_eq_true rfl⟩ rfl (c_Mod_need (by decide)) ?_
        rintro v1 w9 ⟨hw9, ⟨hv1, hg1⟩ | ⟨hv1, hg1, hg2⟩ | ⟨hv1, hg1, hg2⟩⟩
        · skip
          rw [hv1, hw9]
          clear hv1 hw9 v1 w9
          dsimp only [Option.toList, List.cons_append, List.nil_append, List.append_nil]
          refine wp_istore_n (pc' := 11) rfl rfl (Nat.le_of_ble_eq_true rfl) rfl ?_
          dsimp only [lset, lset2, List.set, List.getElem?_cons_zero, List.getElem?_cons_succ]
          refine wp_iload_n (pc' := 12) rfl rfl rfl ?_
          refine wp_if_ge (pc' := 15) (pt := 17) rfl rfl rfl (fun q_133 => absurd q_133 (by decide)) (fun q_133 => ?_)
          refine wp_iload_n (pc' := 16) rfl rfl rfl ?_
          refine wp_ret rfl rfl rfl ?_
          first
          | (exfalso; omega)
          | exact ⟨rfl, rfl, hI⟩
        · skip
          rw [hv1, hw9]
          clear hv1 hw9 v1 w9
          dsimp only [Option.toList, List.cons_append, List.nil_append, List.append_nil]
          refine wp_istore_n (pc' := 11) rfl rfl (Nat.le_of_ble_eq_true rfl) rfl ?_
          dsimp only [lset, lset2, List.set, List.getElem?_cons_zero, List.getElem?_cons_succ]
          refine wp_iload_n (pc' := 12) rfl rfl rfl ?_
          refine wp_if_ge (pc' := 15) (pt := 17) rfl rfl rfl (fun q_134 => absurd q_134 (by decide)) (fun q_134 => ?_)
          refine wp_iload_n (pc' := 16) rfl rfl rfl ?_
          refine wp_ret rfl rfl rfl ?_
          first
          | (exfalso; omega)
          | exact ⟨rfl, rfl, hI⟩
        · skip
          rw [hv1, hw9]
          clear hv1 hw9 v1 w9
          dsimp only [Option.toList, List.cons_append, List.nil_append, List.append_nil]
          refine wp_istore_n (pc' := 11) rfl rfl (Nat.le_of_ble_eq_true rfl) rfl ?_
          dsimp only [lset, lset2, List.set, List.getElem?_cons_zero, List.getElem?_cons_succ]
          refine wp_iload_n (pc' := 12) rfl rfl rfl ?_
          refine wp_if_ge (pc' := 15) (pt := 17) rfl rfl rfl (fun q_135 => ?_) (fun q_135 => absurd (by decide) q_135)
          refine wp_iconst (a := 0) (pc' := 18) rfl rfl rfl ?_
          refine wp_istore_n (pc' := 19) rfl rfl (Nat.le_of_ble_eq_true rfl) rfl ?_
          dsimp only [lset, lset2, List.set, List.getElem?_cons_zero, List.getElem?_cons_succ]
          refine wp_iconst (a := 0) (pc' := 20) rfl rfl rfl ?_
          refine wp_istore (pc' := 22) rfl rfl (Nat.le_of_ble_eq_true rfl) rfl ?_
          dsimp only [lset, lset2, List.set, List.getElem?_cons_zero, List.getElem?_cons_succ]
          refine l_Mvotes hT hm3 hx3 ?_ (w3 100 10).toNat 0 _ _ rfl (by omega) rfl
          refine wp_aload_n (pc' := 71) rfl rfl rfl (by decide) ?_
          refine wp_aload_n (pc' := 72) rfl rfl rfl (by decide) ?_
          refine wp_getR (r' := 109) (ci := 10) (k0 := 15) (pc' := 75) rfl rfl (by decide) (by first | assumption | rfl) (hT.get 107 rfl) ?_
          refine wp_iconst (a := 0) (pc' := 76) rfl rfl rfl ?_
          refine wp_iaload (pc' := 77) rfl rfl (by first | assumption | rfl) (by omega) ?_
          refine wp_aload_n (pc' := 78) rfl rfl rfl (by decide) ?_
          refine wp_getR (r' := 109) (ci := 10) (k0 := 15) (pc' := 81) rfl rfl (by decide) (by first | assumption | rfl) (hT.get 107 rfl) ?_
          refine wp_iconst (a := 1) (pc' := 82) rfl rfl rfl ?_
          refine wp_iaload (pc' := 83) rfl rfl (by first | assumption | rfl) (by omega) ?_
          refine wp_aload_n (pc' := 84) rfl rfl rfl (by decide) ?_
          refine wp_call (pc' := 87) rfl rfl rfl rfl rfl ⟨Nat.le_of_ble_eq_true rfl, Nat.le_of_ble_eq_true rfl, Nat.le_of_ble_eq_true rfl, Nat.le_of_ble_eq_true rfl, Nat.le_of_ble_eq_true rfl⟩ rfl (c_Mod_everybody hm3.2.1) ?_
          intro v1 w9 hq1
          rw [hq1.1, hq1.2]
          clear hq1 v1 w9
          dsimp only [Option.toList, List.cons_append, List.nil_append, List.append_nil]
          refine wp_iconst (a := 0) (pc' := 88) rfl rfl rfl ?_
          refine wp_iconst (a := 0) (pc' := 89) rfl rfl rfl ?_
          refine wp_call (pc' := 92) rfl rfl rfl rfl rfl ⟨Nat.le_of_ble_eq_true rfl, Nat.le_of_ble_eq_true rfl, Nat.le_of_ble_eq_true rfl, Nat.le_of_ble_eq_true rfl, Nat.le_of_ble_eq_true rfl⟩ rfl (c_Mod_layCounts hT hm3 hx3 (by decide)) ?_
          rintro v1 w4 ⟨hv1, hS4, hz4⟩
          rw [hv1]
          clear hv1 v1
          have hz5 : ∀ j : Int, 0 ≤ j → j < 5 → w4 113 j = (fHp (w 3 0) (w 3 1) (w 3 2) (w 4) (w 5) (w 6) (w 3 3) (w 3 4)) j := fun j a b => by
            rw [hz4 j a b, vOfM_all hm3.2.1, g103, g113, g123, g73, g83, g93, m0, m1]
            exact fHp_congr (fun j a b => hpr.2.2.2.2 j a b) j
          have hve : ∀ j : Int, 0 ≤ j → j < w 3 2 → fIs (fVote (w 3 0) (w 3 1) (w 4) (w 5) (w 3 3) (w 3 4)) way j = fIs (fVote (w 3 0) (w 3 1) (w 107) (fun i => w 109 (3 + i)) (w 3 3) (w 3 4)) way j := fun j a b => by
            unfold fIs
            rw [fVote_congr (K := w 107) (H := fun i => w 109 (3 + i)) (K' := w 4) (H' := w 5) (hpr.2.2.2.2 j a b).1 (hpr.2.2.2.2 j a b).2.1]
          have hQ4 : SameF w w4 LQ FQ := hQ3.tr (qry (hS4.F []) (by decide) (by decide))
          have hT := hT.same hS4 (by decide)
          dsimp only [Option.toList, List.cons_append, List.nil_append, List.append_nil]
          refine wp_aload_n (pc' := 93) rfl rfl rfl (by decide) ?_
          refine wp_iload_n (pc' := 94) rfl rfl rfl ?_
          refine wp_aload_n (pc' := 95) rfl rfl rfl (by decide) ?_
          refine wp_getR (r' := 113) (ci := 10) (k0 := 22) (pc' := 98) rfl rfl (by decide) (by first | assumption | rfl) (hT.get 111 rfl) ?_
          refine wp_iload_n (pc' := 99) rfl rfl rfl ?_
          refine wp_iaload (pc' := 100) rfl rfl (by first | assumption | rfl) (by omega) ?_
          refine wp_call (pc' := 103) rfl rfl rfl rfl rfl ⟨Nat.le_of_ble_eq_true rfl, Nat.le_of_ble_eq_true rfl, Nat.le_of_ble_eq_true rfl, Nat.le_of_ble_eq_true rfl, Nat.le_of_ble_eq_true rfl⟩ rfl (c_Mod_tells) ?_
          rintro v1 w6 ⟨hv1, hw6⟩
          rw [hv1]
          clear hv1 v1
          dsimp only [Option.toList, List.cons_append, List.nil_append, List.append_nil]
          refine wp_ret rfl rfl rfl ?_
          refine ⟨by rw [hz5 way (by omega) (by omega), e325], ?_, hI.query (w' := w6) ?_ ?_⟩
          · rw [hw6, up_ne (by decide), hS4 _ (by decide)]
          · rw [hw6]
            exact hQ4.put (Or.inr (by decide))
          · rw [hw6, up_eq, up_ne (by decide), hS4 0 (by decide), e314, g103, g113, g123, g73, g93, m0, m1]
            exact orN_congr (fun j a b => hve j a (by omega))
  · skip
    rw [hv1, hw9]
    clear hv1 hw9 v1 w9
    dsimp only [Option.toList, List.cons_append, List.nil_append, List.append_nil]
    refine wp_if_ne (pc' := 7) (pt := 9) rfl rfl rfl (fun q_156 => absurd q_156 (by decide)) (fun q_156 => ?_)
    refine wp_iconst (a := -1) (pc' := 8) rfl rfl rfl ?_
    refine wp_ret rfl rfl rfl ?_
    refine ⟨_, rfl, ?_, ?_⟩
    · rfl
    refine wp_aload_n (pc' := 1) rfl rfl rfl (by decide) ?_
    refine wp_iload_n (pc' := 2) rfl rfl rfl ?_
    refine wp_iconst (a := 0) (pc' := 3) rfl rfl rfl ?_
    refine wp_iconst (a := 4) (pc' := 4) rfl rfl rfl ?_
    refine wp_call (pc' := 7) rfl rfl rfl rfl rfl ⟨Nat.le_of_ble_eq_true rfl, Nat.le_of_ble_eq_true rfl, Nat.le_of_ble_eq_true rfl, Nat.le_of_ble_eq_true rfl, Nat.le_of_ble_eq_true rfl⟩ rfl (c_Mod_in) ?_
    rintro v1 w9 ⟨hw9, ⟨hv1, hin⟩ | ⟨hv1, hin⟩⟩
    · skip
      rw [hv1, hw9]
      clear hv1 hw9 v1 w9
      dsimp only [Option.toList, List.cons_append, List.nil_append, List.append_nil]
      refine wp_call (pc' := 10) rfl rfl rfl rfl rfl ⟨Nat.le_of_ble_eq_true rfl, Nat.le_of_ble_eq_true rfl, Nat.le_of_ble_eq_true rfl, Nat.le_of_ble_eq_true rfl, Nat.le_of_ble_eq_true rfl⟩ rfl (c_Mod_need (by decide)) ?_
      rintro v1 w9 ⟨hw9, ⟨hv1, hg1⟩ | ⟨hv1, hg1, hg2⟩ | ⟨hv1, hg1, hg2⟩⟩
      · skip
        rw [hv1, hw9]
        clear hv1 hw9 v1 w9
        dsimp only [Option.toList, List.cons_append, List.nil_append, List.append_nil]
        refine wp_istore_n (pc' := 11) rfl rfl (Nat.le_of_ble_eq_true rfl) rfl ?_
        dsimp only [lset, lset2, List.set, List.getElem?_cons_zero, List.getElem?_cons_succ]
        refine wp_iload_n (pc' := 12) rfl rfl rfl ?_
        refine wp_if_ge (pc' := 15) (pt := 17) rfl rfl rfl (fun q_207 => absurd q_207 (by decide)) (fun q_207 => ?_)
        refine wp_iload_n (pc' := 16) rfl rfl rfl ?_
        refine wp_ret rfl rfl rfl ?_
        first
        | (exfalso; omega)
        | exact ⟨rfl, rfl, hI⟩
      · skip
        rw [hv1, hw9]
        clear hv1 hw9 v1 w9
        dsimp only [Option.toList, List.cons_append, List.nil_append, List.append_nil]
        refine wp_istore_n (pc' := 11) rfl rfl (Nat.le_of_ble_eq_true rfl) rfl ?_
        dsimp only [lset, lset2, List.set, List.getElem?_cons_zero, List.getElem?_cons_succ]
        refine wp_iload_n (pc' := 12) rfl rfl rfl ?_
        refine wp_if_ge (pc' := 15) (pt := 17) rfl rfl rfl (fun q_208 => absurd q_208 (by decide)) (fun q_208 => ?_)
        refine wp_iload_n (pc' := 16) rfl rfl rfl ?_
        refine wp_ret rfl rfl rfl ?_
        first
        | (exfalso; omega)
        | exact ⟨rfl, rfl, hI⟩
      · skip
        rw [hv1, hw9]
        clear hv1 hw9 v1 w9
        dsimp only [Option.toList, List.cons_append, List.nil_append, List.append_nil]
        refine wp_istore_n (pc' := 11) rfl rfl (Nat.le_of_ble_eq_true rfl) rfl ?_
        dsimp only [lset, lset2, List.set, List.getElem?_cons_zero, List.getElem?_cons_succ]
        refine wp_iload_n (pc' := 12) rfl rfl rfl ?_
        refine wp_if_ge (pc' := 15) (pt := 17) rfl rfl rfl (fun q_209 => ?_) (fun q_209 => absurd (by decide) q_209)
        exfalso; omega
    · skip
      rw [hv1, hw9]
      clear hv1 hw9 v1 w9
      dsimp only [Option.toList, List.cons_append, List.nil_append, List.append_nil]
      refine wp_call (pc' := 10) rfl rfl rfl rfl rfl ⟨Nat.le_of_ble_eq_true rfl, Nat.le_of_ble_eq_true rfl, Nat.le_of_ble_eq_true rfl, Nat.le_of_ble_eq_true rfl, Nat.le_of_ble_eq_true rfl⟩ rfl (c_Mod_need (by decide)) ?_
      rintro v1 w9 ⟨hw9, ⟨hv1, hg1⟩ | ⟨hv1, hg1, hg2⟩ | ⟨hv1, hg1, hg2⟩⟩
      · skip
        rw [hv1, hw9]
        clear hv1 hw9 v1 w9
        dsimp only [Option.toList, List.cons_append, List.nil_append, List.append_nil]
        refine wp_istore_n (pc' := 11) rfl rfl (Nat.le_of_ble_eq_true rfl) rfl ?_
        dsimp only [lset, lset2, List.set, List.getElem?_cons_zero, List.getElem?_cons_succ]
        refine wp_iload_n (pc' := 12) rfl rfl rfl ?_
        refine wp_if_ge (pc' := 15) (pt := 17) rfl rfl rfl (fun q_210 => absurd q_210 (by decide)) (fun q_210 => ?_)
        refine wp_iload_n (pc' := 16) rfl rfl rfl ?_
        refine wp_ret rfl rfl rfl ?_
        first
        | (exfalso; omega)
        | exact ⟨rfl, rfl, hI⟩
      · skip
        rw [hv1, hw9]
        clear hv1 hw9 v1 w9
        dsimp only [Option.toList, List.cons_append, List.nil_append, List.append_nil]
        refine wp_istore_n (pc' := 11) rfl rfl (Nat.le_of_ble_eq_true rfl) rfl ?_
        dsimp only [lset, lset2, List.set, List.getElem?_cons_zero, List.getElem?_cons_succ]
        refine wp_iload_n (pc' := 12) rfl rfl rfl ?_
        refine wp_if_ge (pc' := 15) (pt := 17) rfl rfl rfl (fun q_211 => absurd q_211 (by decide)) (fun q_211 => ?_)
        refine wp_iload_n (pc' := 16) rfl rfl rfl ?_
        refine wp_ret rfl rfl rfl ?_
        first
        | (exfalso; omega)
        | exact ⟨rfl, rfl, hI⟩
      · skip
        rw [hv1, hw9]
        clear hv1 hw9 v1 w9
        dsimp only [Option.toList, List.cons_append, List.nil_append, List.append_nil]
        refine wp_istore_n (pc' := 11) rfl rfl (Nat.le_of_ble_eq_true rfl) rfl ?_
        dsimp only [lset, lset2, List.set, List.getElem?_cons_zero, List.getElem?_cons_succ]
        refine wp_iload_n (pc' := 12) rfl rfl rfl ?_
        refine wp_if_ge (pc' := 15) (pt := 17) rfl rfl rfl (fun q_212 => ?_) (fun q_212 => absurd (by decide) q_212)
        exfalso; omega
