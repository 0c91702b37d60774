/-! digest, the reference's side -/
theorem up_up (w : Hp) (r i x y : Int) : up (up w r i x) r i y = up w r i y := by
  funext a b
  unfold up
  split
  · rfl
  · rfl
theorem up_id (w : Hp) (r i : Int) : up w r i (w r i) = w := by
  funext a b
  unfold up
  split
  · rename_i h
    rw [h.1, h.2]
  · rfl
def sOneM (w : Hp) (i what : Int) : Int := if what = 0 then (w 107 i) else if what = 1 then (w 109 (3 + i)) else if what = 2 then (w 108 i) else if what = 3 then sG (w 100 11) (w 107 i) (w 109 (3 + i)) (w 109 0) else sVote (w 100 11) (w 100 12) (w 107 i) (w 109 (3 + i)) (w 109 0) (w 109 1)
def dgPM (w : Hp) (h : Int) (n : Nat) : Int := seqN (fun m x => mixF (sOneM w m) x 5) h n
def fKdM (w : Hp) : Int → Int := fun k => if w 115 k = 0 then -1 else w 116 k
def dgM (w : Hp) : Int := dgR (w 105) (fun t i => w 106 (60 * t + i)) (dgR (w 102) (fun r i => w 103 (40 * r + i)) (mixF (fKdM w) (dgPM w (mixF (sCntM w) 17 11) (w 100 10).toNat) 3) 6) 4
theorem cntM_up {w : Hp} {x q : Int} : sCntM (up w 100 37 x) q = sCntM w q := by
  unfold sCntM sCntS fC1
  rw [up_at (show (10 : Int) ≠ 37 by decide), up_at (show (11 : Int) ≠ 37 by decide), up_at (show (12 : Int) ≠ 37 by decide), up_at (show (23 : Int) ≠ 37 by decide), up_ne (show (102 : Int) ≠ 100 by decide), up_ne (show (105 : Int) ≠ 100 by decide), up_ne (show (107 : Int) ≠ 100 by decide), up_ne (show (108 : Int) ≠ 100 by decide), up_ne (show (109 : Int) ≠ 100 by decide), up_ne (show (115 : Int) ≠ 100 by decide)]
theorem oneM_up {w : Hp} {x i q : Int} : sOneM (up w 100 37 x) i q = sOneM w i q := by
  unfold sOneM
  rw [up_at (show (11 : Int) ≠ 37 by decide), up_at (show (12 : Int) ≠ 37 by decide), up_ne (show (107 : Int) ≠ 100 by decide), up_ne (show (108 : Int) ≠ 100 by decide), up_ne (show (109 : Int) ≠ 100 by decide)]
set_option maxRecDepth 20000 in
set_option maxHeartbeats 4000000 in
theorem c_Mod_mix {w : Hp} {d : Nat} {x : Int} : WP SH (d + 0) 226 0 [some (vR 100), some (vL x), none] [] w (fun v w' => v = none ∧ w' = up w 100 37 (mx (w 100 37) x)) := by
  refine wp_aload_n (pc' := 1) rfl rfl rfl (by decide) ?_
  refine wp_ldc2_w (a := 31) (pc' := 4) rfl rfl rfl ?_
  refine wp_aload_n (pc' := 5) rfl rfl rfl (by decide) ?_
  refine wp_getL (ci := 10) (k0 := 37) (pc' := 8) rfl rfl (by decide) (by first | assumption | rfl) ?_
  refine wp_lmul (pc' := 9) rfl rfl (by first | exact w64_id (by omega) (by omega) | rfl) ?_
  refine wp_lload_n (pc' := 10) rfl rfl rfl ?_
  refine wp_ladd (pc' := 11) rfl rfl (by first | exact w64_id (by omega) (by omega) | rfl) ?_
  refine wp_putL (ci := 10) (k0 := 37) (pc' := 14) rfl rfl (by decide) (by first | assumption | rfl) ?_
  refine wp_ret rfl rfl rfl ?_
  exact ⟨rfl, rfl⟩
set_option maxRecDepth 20000 in
set_option maxHeartbeats 4000000 in
theorem l_Mdg1 {w : Hp} {d : Nat} {h : Int} (hT : Stc w) (hn25 : 0 ≤ w 100 11 * w 100 12 ∧ w 100 11 * w 100 12 ≤ 25) (hn : 0 ≤ w 100 10 ∧ w 100 10 ≤ 6) (hpre : w 100 10 ≠ 0 → MdOK w ∧ Cel (w 100 11) (w 100 12) (w 109 0)) {Q : Option PV → Hp → Prop} (K : ∀ (y : Int) (x4 : Option PV), WP SH (d + 1) 228 31 [some (vR 100), some (vI y), x4] [] (up w 100 37 (mixF (sCntM w) h (11))) Q) : ∀ (k m : Nat) (x y : Int) (x4 : Option PV), y = m → m + k = 11 → x = mixF (sCntM w) h m → WP SH (d + 1) 228 9 [some (vR 100), some (vI y), x4] [] (up w 100 37 x) Q := by
  intro k
  induction k with
  | zero =>
    intro m x y x4 hy hmk hx
    have hTu : Stc (up w 100 37 x) := hT.putF (by decide)
    have e100 : ∀ k : Int, k ≠ 37 → up w 100 37 x 100 k = w 100 k := fun k hk => up_at hk
    have ew : ∀ q : Int, q ≠ 100 → up w 100 37 x q = w q := fun q hq => up_ne hq
    have hT := hTu
    have u10 : up w 100 37 x 100 10 = w 100 10 := e100 10 (by decide)
    have hn25u : 0 ≤ up w 100 37 x 100 11 * up w 100 37 x 100 12 ∧ up w 100 37 x 100 11 * up w 100 37 x 100 12 ≤ 25 := by rw [e100 11 (by decide), e100 12 (by decide)]; exact hn25
    have hMu : w 100 10 ≠ 0 → MdOK (up w 100 37 x) ∧ Cel (up w 100 37 x 100 11) (up w 100 37 x 100 12) (up w 100 37 x 109 0) := fun h => by
      obtain ⟨a, b⟩ := hpre h
      refine ⟨?_, by rw [e100 11 (by decide), e100 12 (by decide), ew 109 (by decide)]; exact b⟩
      unfold MdOK
      rw [e100 11 (by decide), e100 12 (by decide), e100 10 (by decide), ew 107 (by decide), ew 108 (by decide), ew 109 (by decide)]
      exact a
    refine wp_iload_n (pc' := 10) rfl rfl rfl ?_
    refine wp_bipush (a := 11) (pc' := 12) rfl rfl rfl ?_
    refine wp_icmp_ge (pc' := 15) (pt := 31) rfl rfl rfl (fun q_1 => ?_) (fun q_1 => ?_)
    · skip
      obtain rfl : m = 11 := by omega
      rw [hx]
      exact K _ _
    · skip
      exfalso; omega
  | succ k ih =>
    intro m x y x4 hy hmk hx
    have hTu : Stc (up w 100 37 x) := hT.putF (by decide)
    have e100 : ∀ k : Int, k ≠ 37 → up w 100 37 x 100 k = w 100 k := fun k hk => up_at hk
    have ew : ∀ q : Int, q ≠ 100 → up w 100 37 x q = w q := fun q hq => up_ne hq
    have hT := hTu
    have u10 : up w 100 37 x 100 10 = w 100 10 := e100 10 (by decide)
    have hn25u : 0 ≤ up w 100 37 x 100 11 * up w 100 37 x 100 12 ∧ up w 100 37 x 100 11 * up w 100 37 x 100 12 ≤ 25 := by rw [e100 11 (by decide), e100 12 (by decide)]; exact hn25
    have hMu : w 100 10 ≠ 0 → MdOK (up w 100 37 x) ∧ Cel (up w 100 37 x 100 11) (up w 100 37 x 100 12) (up w 100 37 x 109 0) := fun h => by
      obtain ⟨a, b⟩ := hpre h
      refine ⟨?_, by rw [e100 11 (by decide), e100 12 (by decide), ew 109 (by decide)]; exact b⟩
      unfold MdOK
      rw [e100 11 (by decide), e100 12 (by decide), e100 10 (by decide), ew 107 (by decide), ew 108 (by decide), ew 109 (by decide)]
      exact a
    refine wp_iload_n (pc' := 10) rfl rfl rfl ?_
    refine wp_bipush (a := 11) (pc' := 12) rfl rfl rfl ?_
    refine wp_icmp_ge (pc' := 15) (pt := 31) rfl rfl rfl (fun q_1 => ?_) (fun q_1 => ?_)
    · skip
      exfalso; omega
    · skip
      refine wp_aload_n (pc' := 16) rfl rfl rfl (by decide) ?_
      refine wp_aload_n (pc' := 17) rfl rfl rfl (by decide) ?_
      refine wp_iload_n (pc' := 18) rfl rfl rfl ?_
      refine wp_call (pc' := 21) rfl rfl rfl rfl rfl ⟨Nat.le_of_ble_eq_true rfl, Nat.le_of_ble_eq_true rfl, Nat.le_of_ble_eq_true rfl, Nat.le_of_ble_eq_true rfl, Nat.le_of_ble_eq_true rfl⟩ rfl (c_Mod_counted hT hn25u (by omega) (fun j a b => by rw [ew 108 (by decide)]; exact ((hpre (by omega)).1.2.2 j a (by omega)).2.2)) ?_
      intro v1 w9 hq1
      rw [hq1.1, hq1.2]
      clear hq1 v1 w9
      rw [cntM_up]
      dsimp only [Option.toList, List.cons_append, List.nil_append, List.append_nil]
      refine wp_i2l (pc' := 22) rfl rfl ?_
      refine wp_call (pc' := 25) rfl rfl rfl rfl rfl ⟨Nat.le_of_ble_eq_true rfl, Nat.le_of_ble_eq_true rfl, Nat.le_of_ble_eq_true rfl, Nat.le_of_ble_eq_true rfl, Nat.le_of_ble_eq_true rfl⟩ rfl (c_Mod_mix) ?_
      rintro v1 w9 ⟨hv1, hw9⟩
      rw [hv1, hw9]
      clear hv1 hw9 v1 w9
      rw [up_eq, up_up]
      dsimp only [Option.toList, List.cons_append, List.nil_append, List.append_nil]
      refine wp_iinc (pc' := 28) rfl rfl rfl (inc_id (by omega) (by omega)) rfl ?_
      dsimp only [lset, lset2, List.set, List.getElem?_cons_zero, List.getElem?_cons_succ]
      refine wp_goto (pc' := 9) rfl rfl ?_
      refine ih (m + 1) _ _ _ (by omega) (by omega) ?_
      subst hy
      rw [hx]
      rfl
set_option maxRecDepth 20000 in
set_option maxHeartbeats 4000000 in
theorem l_Mml1 {w : Hp} {d : Nat} {h i : Int} (hT : Stc w) (hn25 : 0 ≤ w 100 11 * w 100 12 ∧ w 100 11 * w 100 12 ≤ 25) (hn : 0 ≤ w 100 10 ∧ w 100 10 ≤ 6) (hpre : w 100 10 ≠ 0 → MdOK w ∧ Cel (w 100 11) (w 100 12) (w 109 0)) (hi : 0 ≤ i ∧ i < w 100 10) {Q : Option PV → Hp → Prop} (K : ∀ (y : Int), WP SH (d + 6) 227 34 [some (vR 100), some (vI i), some (vI y)] [] (up w 100 37 (mixF (sOneM w i) h (5))) Q) : ∀ (k m : Nat) (x y : Int) , y = m → m + k = 5 → x = mixF (sOneM w i) h m → WP SH (d + 6) 227 12 [some (vR 100), some (vI i), some (vI y)] [] (up w 100 37 x) Q := by
  intro k
  induction k with
  | zero =>
    intro m x y  hy hmk hx
    have hTu : Stc (up w 100 37 x) := hT.putF (by decide)
    have e100 : ∀ k : Int, k ≠ 37 → up w 100 37 x 100 k = w 100 k := fun k hk => up_at hk
    have ew : ∀ q : Int, q ≠ 100 → up w 100 37 x q = w q := fun q hq => up_ne hq
    have hT := hTu
    have u10 : up w 100 37 x 100 10 = w 100 10 := e100 10 (by decide)
    have hn25u : 0 ≤ up w 100 37 x 100 11 * up w 100 37 x 100 12 ∧ up w 100 37 x 100 11 * up w 100 37 x 100 12 ≤ 25 := by rw [e100 11 (by decide), e100 12 (by decide)]; exact hn25
    have hMu : w 100 10 ≠ 0 → MdOK (up w 100 37 x) ∧ Cel (up w 100 37 x 100 11) (up w 100 37 x 100 12) (up w 100 37 x 109 0) := fun h => by
      obtain ⟨a, b⟩ := hpre h
      refine ⟨?_, by rw [e100 11 (by decide), e100 12 (by decide), ew 109 (by decide)]; exact b⟩
      unfold MdOK
      rw [e100 11 (by decide), e100 12 (by decide), e100 10 (by decide), ew 107 (by decide), ew 108 (by decide), ew 109 (by decide)]
      exact a
    refine wp_iload_n (pc' := 13) rfl rfl rfl ?_
    refine wp_iconst (a := 5) (pc' := 14) rfl rfl rfl ?_
    refine wp_icmp_ge (pc' := 17) (pt := 34) rfl rfl rfl (fun q_1 => ?_) (fun q_1 => ?_)
    · skip
      obtain rfl : m = 5 := by omega
      rw [hx]
      exact K _
    · skip
      exfalso; omega
  | succ k ih =>
    intro m x y  hy hmk hx
    have hTu : Stc (up w 100 37 x) := hT.putF (by decide)
    have e100 : ∀ k : Int, k ≠ 37 → up w 100 37 x 100 k = w 100 k := fun k hk => up_at hk
    have ew : ∀ q : Int, q ≠ 100 → up w 100 37 x q = w q := fun q hq => up_ne hq
    have hT := hTu
    have u10 : up w 100 37 x 100 10 = w 100 10 := e100 10 (by decide)
    have hn25u : 0 ≤ up w 100 37 x 100 11 * up w 100 37 x 100 12 ∧ up w 100 37 x 100 11 * up w 100 37 x 100 12 ≤ 25 := by rw [e100 11 (by decide), e100 12 (by decide)]; exact hn25
    have hMu : w 100 10 ≠ 0 → MdOK (up w 100 37 x) ∧ Cel (up w 100 37 x 100 11) (up w 100 37 x 100 12) (up w 100 37 x 109 0) := fun h => by
      obtain ⟨a, b⟩ := hpre h
      refine ⟨?_, by rw [e100 11 (by decide), e100 12 (by decide), ew 109 (by decide)]; exact b⟩
      unfold MdOK
      rw [e100 11 (by decide), e100 12 (by decide), e100 10 (by decide), ew 107 (by decide), ew 108 (by decide), ew 109 (by decide)]
      exact a
    refine wp_iload_n (pc' := 13) rfl rfl rfl ?_
    refine wp_iconst (a := 5) (pc' := 14) rfl rfl rfl ?_
    refine wp_icmp_ge (pc' := 17) (pt := 34) rfl rfl rfl (fun q_1 => ?_) (fun q_1 => ?_)
    · skip
      exfalso; omega
    · skip
      refine wp_aload_n (pc' := 18) rfl rfl rfl (by decide) ?_
      refine wp_aload_n (pc' := 19) rfl rfl rfl (by decide) ?_
      refine wp_iload_n (pc' := 20) rfl rfl rfl ?_
      refine wp_iload_n (pc' := 21) rfl rfl rfl ?_
      refine wp_call (pc' := 24) rfl rfl rfl rfl rfl ⟨Nat.le_of_ble_eq_true rfl, Nat.le_of_ble_eq_true rfl, Nat.le_of_ble_eq_true rfl, Nat.le_of_ble_eq_true rfl, Nat.le_of_ble_eq_true rfl⟩ rfl (c_Mod_oneTells hT (hMu (by omega)).1 (hMu (by omega)).2 (by omega)) ?_
      intro v1 w9 hq1
      rw [hq1.1, hq1.2]
      clear hq1 v1 w9
      change WP SH _ _ _ _ ((some (vI (sOneM (up w 100 37 x) i y))).toList ++ _) _ _
      rw [oneM_up]
      dsimp only [Option.toList, List.cons_append, List.nil_append, List.append_nil]
      refine wp_i2l (pc' := 25) rfl rfl ?_
      refine wp_call (pc' := 28) rfl rfl rfl rfl rfl ⟨Nat.le_of_ble_eq_true rfl, Nat.le_of_ble_eq_true rfl, Nat.le_of_ble_eq_true rfl, Nat.le_of_ble_eq_true rfl, Nat.le_of_ble_eq_true rfl⟩ rfl (c_Mod_mix) ?_
      rintro v1 w9 ⟨hv1, hw9⟩
      rw [hv1, hw9]
      clear hv1 hw9 v1 w9
      rw [up_eq, up_up]
      dsimp only [Option.toList, List.cons_append, List.nil_append, List.append_nil]
      refine wp_iinc (pc' := 31) rfl rfl rfl (inc_id (by omega) (by omega)) rfl ?_
      dsimp only [lset, lset2, List.set, List.getElem?_cons_zero, List.getElem?_cons_succ]
      refine wp_goto (pc' := 12) rfl rfl ?_
      refine ih (m + 1) _ _  (by omega) (by omega) ?_
      subst hy
      rw [hx]
      rfl
set_option maxRecDepth 20000 in
set_option maxHeartbeats 4000000 in
theorem l_Mml2 {w : Hp} {d : Nat} {h : Int} (hT : Stc w) (hn25 : 0 ≤ w 100 11 * w 100 12 ∧ w 100 11 * w 100 12 ≤ 25) (hn : 0 ≤ w 100 10 ∧ w 100 10 ≤ 6) (hpre : w 100 10 ≠ 0 → MdOK w ∧ Cel (w 100 11) (w 100 12) (w 109 0)) {Q : Option PV → Hp → Prop} (K : ∀ (y : Int) (x4 : Option PV), WP SH (d + 6) 227 40 [some (vR 100), some (vI y), x4] [] (up w 100 37 (dgPM w h ((w 100 10).toNat))) Q) : ∀ (k m : Nat) (x y : Int) (x4 : Option PV), y = m → m + k = (w 100 10).toNat → x = dgPM w h m → WP SH (d + 6) 227 2 [some (vR 100), some (vI y), x4] [] (up w 100 37 x) Q := by
  intro k
  induction k with
  | zero =>
    intro m x y x4 hy hmk hx
    have hT0 := hT
    have hTu : Stc (up w 100 37 x) := hT.putF (by decide)
    have e100 : ∀ k : Int, k ≠ 37 → up w 100 37 x 100 k = w 100 k := fun k hk => up_at hk
    have ew : ∀ q : Int, q ≠ 100 → up w 100 37 x q = w q := fun q hq => up_ne hq
    have hT := hTu
    have u10 : up w 100 37 x 100 10 = w 100 10 := e100 10 (by decide)
    have hn25u : 0 ≤ up w 100 37 x 100 11 * up w 100 37 x 100 12 ∧ up w 100 37 x 100 11 * up w 100 37 x 100 12 ≤ 25 := by rw [e100 11 (by decide), e100 12 (by decide)]; exact hn25
    have hMu : w 100 10 ≠ 0 → MdOK (up w 100 37 x) ∧ Cel (up w 100 37 x 100 11) (up w 100 37 x 100 12) (up w 100 37 x 109 0) := fun h => by
      obtain ⟨a, b⟩ := hpre h
      refine ⟨?_, by rw [e100 11 (by decide), e100 12 (by decide), ew 109 (by decide)]; exact b⟩
      unfold MdOK
      rw [e100 11 (by decide), e100 12 (by decide), e100 10 (by decide), ew 107 (by decide), ew 108 (by decide), ew 109 (by decide)]
      exact a
    refine wp_iload_n (pc' := 3) rfl rfl rfl ?_
    refine wp_aload_n (pc' := 4) rfl rfl rfl (by decide) ?_
    refine wp_getI (ci := 10) (k0 := 10) (pc' := 7) rfl rfl (by decide) (by first | assumption | rfl) ?_
    refine wp_icmp_ge (pc' := 10) (pt := 40) rfl rfl rfl (fun q_1 => ?_) (fun q_1 => ?_)
    · skip
      obtain rfl : m = (w 100 10).toNat := by omega
      rw [hx]
      exact K _ _
    · skip
      exfalso; omega
  | succ k ih =>
    intro m x y x4 hy hmk hx
    have hT0 := hT
    have hTu : Stc (up w 100 37 x) := hT.putF (by decide)
    have e100 : ∀ k : Int, k ≠ 37 → up w 100 37 x 100 k = w 100 k := fun k hk => up_at hk
    have ew : ∀ q : Int, q ≠ 100 → up w 100 37 x q = w q := fun q hq => up_ne hq
    have hT := hTu
    have u10 : up w 100 37 x 100 10 = w 100 10 := e100 10 (by decide)
    have hn25u : 0 ≤ up w 100 37 x 100 11 * up w 100 37 x 100 12 ∧ up w 100 37 x 100 11 * up w 100 37 x 100 12 ≤ 25 := by rw [e100 11 (by decide), e100 12 (by decide)]; exact hn25
    have hMu : w 100 10 ≠ 0 → MdOK (up w 100 37 x) ∧ Cel (up w 100 37 x 100 11) (up w 100 37 x 100 12) (up w 100 37 x 109 0) := fun h => by
      obtain ⟨a, b⟩ := hpre h
      refine ⟨?_, by rw [e100 11 (by decide), e100 12 (by decide), ew 109 (by decide)]; exact b⟩
      unfold MdOK
      rw [e100 11 (by decide), e100 12 (by decide), e100 10 (by decide), ew 107 (by decide), ew 108 (by decide), ew 109 (by decide)]
      exact a
    refine wp_iload_n (pc' := 3) rfl rfl rfl ?_
    refine wp_aload_n (pc' := 4) rfl rfl rfl (by decide) ?_
    refine wp_getI (ci := 10) (k0 := 10) (pc' := 7) rfl rfl (by decide) (by first | assumption | rfl) ?_
    refine wp_icmp_ge (pc' := 10) (pt := 40) rfl rfl rfl (fun q_1 => ?_) (fun q_1 => ?_)
    · skip
      exfalso; omega
    · skip
      refine wp_iconst (a := 0) (pc' := 11) rfl rfl rfl ?_
      refine wp_istore_n (pc' := 12) rfl rfl (Nat.le_of_ble_eq_true rfl) rfl ?_
      dsimp only [lset, lset2, List.set, List.getElem?_cons_zero, List.getElem?_cons_succ]
      refine l_Mml1 hT0 hn25 hn hpre (by omega) (fun y9 => ?_) 5 0 _ _ rfl rfl rfl
      refine wp_iinc (pc' := 37) rfl rfl rfl (inc_id (by omega) (by omega)) rfl ?_
      dsimp only [lset, lset2, List.set, List.getElem?_cons_zero, List.getElem?_cons_succ]
      refine wp_goto (pc' := 2) rfl rfl ?_
      refine ih (m + 1) _ _ _ (by omega) (by omega) ?_
      subst hy
      rw [hx]
      rfl
set_option maxRecDepth 20000 in
set_option maxHeartbeats 4000000 in
theorem l_Mml3 {w : Hp} {d : Nat} {h : Int} (hT : Stc w) {Q : Option PV → Hp → Prop} (K : ∀ (y : Int) (x4 : Option PV), WP SH (d + 1) 227 79 [some (vR 100), some (vI y), x4] [] (up w 100 37 (mixF (fKdM w) h (3))) Q) : ∀ (k m : Nat) (x y : Int) (x4 : Option PV), y = m → m + k = 3 → x = mixF (fKdM w) h m → WP SH (d + 1) 227 42 [some (vR 100), some (vI y), x4] [] (up w 100 37 x) Q := by
  intro k
  induction k with
  | zero =>
    intro m x y x4 hy hmk hx
    have hTu : Stc (up w 100 37 x) := hT.putF (by decide)
    have e100 : ∀ k : Int, k ≠ 37 → up w 100 37 x 100 k = w 100 k := fun k hk => up_at hk
    have ew : ∀ q : Int, q ≠ 100 → up w 100 37 x q = w q := fun q hq => up_ne hq
    have hT := hTu
    refine wp_iload_n (pc' := 43) rfl rfl rfl ?_
    refine wp_iconst (a := 3) (pc' := 44) rfl rfl rfl ?_
    refine wp_icmp_ge (pc' := 47) (pt := 79) rfl rfl rfl (fun q_1 => ?_) (fun q_1 => ?_)
    · skip
      obtain rfl : m = 3 := by omega
      rw [hx]
      exact K _ _
    · skip
      exfalso; omega
  | succ k ih =>
    intro m x y x4 hy hmk hx
    have hTu : Stc (up w 100 37 x) := hT.putF (by decide)
    have e100 : ∀ k : Int, k ≠ 37 → up w 100 37 x 100 k = w 100 k := fun k hk => up_at hk
    have ew : ∀ q : Int, q ≠ 100 → up w 100 37 x q = w q := fun q hq => up_ne hq
    have hT := hTu
    refine wp_iload_n (pc' := 43) rfl rfl rfl ?_
    refine wp_iconst (a := 3) (pc' := 44) rfl rfl rfl ?_
    refine wp_icmp_ge (pc' := 47) (pt := 79) rfl rfl rfl (fun q_1 => ?_) (fun q_1 => ?_)
    · skip
      exfalso; omega
    · skip
      refine wp_aload_n (pc' := 48) rfl rfl rfl (by decide) ?_
      refine wp_aload_n (pc' := 49) rfl rfl rfl (by decide) ?_
      refine wp_getR (r' := 115) (ci := 10) (k0 := 25) (pc' := 52) rfl rfl (by decide) (by first | assumption | rfl) (hT.get 113 rfl) ?_
      refine wp_iload_n (pc' := 53) rfl rfl rfl ?_
      refine wp_baload (pc' := 54) rfl rfl (by first | assumption | rfl) rfl (by omega) ?_
      refine wp_if_eq (pc' := 57) (pt := 67) rfl rfl rfl (fun q_2 => ?_) (fun q_2 => ?_)
      · skip
        refine wp_ldc2_w (a := -1) (pc' := 70) rfl rfl rfl ?_
        refine wp_call (pc' := 73) rfl rfl rfl rfl rfl ⟨Nat.le_of_ble_eq_true rfl, Nat.le_of_ble_eq_true rfl, Nat.le_of_ble_eq_true rfl, Nat.le_of_ble_eq_true rfl, Nat.le_of_ble_eq_true rfl⟩ rfl (c_Mod_mix) ?_
        rintro v1 w9 ⟨hv1, hw9⟩
        rw [hv1, hw9]
        clear hv1 hw9 v1 w9
        rw [up_eq, up_up]
        dsimp only [Option.toList, List.cons_append, List.nil_append, List.append_nil]
        refine wp_iinc (pc' := 76) rfl rfl rfl (inc_id (by omega) (by omega)) rfl ?_
        dsimp only [lset, lset2, List.set, List.getElem?_cons_zero, List.getElem?_cons_succ]
        refine wp_goto (pc' := 42) rfl rfl ?_
        refine ih (m + 1) _ _ _ (by omega) (by omega) ?_
        subst hy
        have e15 : up w 100 37 x 115 (m : Int) = w 115 m := by rw [ew 115 (by decide)]
        have e16 : up w 100 37 x 116 (m : Int) = w 116 m := by rw [ew 116 (by decide)]
        show mx x _ = mx (mixF (fKdM w) h m) (fKdM w m)
        rw [← hx]
        unfold fKdM
        first
        | (rw [if_pos (by omega)])
        | (rw [if_neg (by omega), e16])
      · skip
        refine wp_aload_n (pc' := 58) rfl rfl rfl (by decide) ?_
        refine wp_getR (r' := 116) (ci := 10) (k0 := 26) (pc' := 61) rfl rfl (by decide) (by first | assumption | rfl) (hT.get 114 rfl) ?_
        refine wp_iload_n (pc' := 62) rfl rfl rfl ?_
        refine wp_iaload (pc' := 63) rfl rfl (by first | assumption | rfl) (by omega) ?_
        refine wp_i2l (pc' := 64) rfl rfl ?_
        refine wp_goto (pc' := 70) rfl rfl ?_
        refine wp_call (pc' := 73) rfl rfl rfl rfl rfl ⟨Nat.le_of_ble_eq_true rfl, Nat.le_of_ble_eq_true rfl, Nat.le_of_ble_eq_true rfl, Nat.le_of_ble_eq_true rfl, Nat.le_of_ble_eq_true rfl⟩ rfl (c_Mod_mix) ?_
        rintro v1 w9 ⟨hv1, hw9⟩
        rw [hv1, hw9]
        clear hv1 hw9 v1 w9
        rw [up_eq, up_up]
        dsimp only [Option.toList, List.cons_append, List.nil_append, List.append_nil]
        refine wp_iinc (pc' := 76) rfl rfl rfl (inc_id (by omega) (by omega)) rfl ?_
        dsimp only [lset, lset2, List.set, List.getElem?_cons_zero, List.getElem?_cons_succ]
        refine wp_goto (pc' := 42) rfl rfl ?_
        refine ih (m + 1) _ _ _ (by omega) (by omega) ?_
        subst hy
        have e15 : up w 100 37 x 115 (m : Int) = w 115 m := by rw [ew 115 (by decide)]
        have e16 : up w 100 37 x 116 (m : Int) = w 116 m := by rw [ew 116 (by decide)]
        show mx x _ = mx (mixF (fKdM w) h m) (fKdM w m)
        rw [← hx]
        unfold fKdM
        first
        | (rw [if_pos (by omega)])
        | (rw [if_neg (by omega), e16])
set_option maxRecDepth 20000 in
set_option maxHeartbeats 4000000 in
theorem c_Mod_mixLand {w : Hp} {d : Nat} {x : Int} (hT : Stc w) (hn25 : 0 ≤ w 100 11 * w 100 12 ∧ w 100 11 * w 100 12 ≤ 25) (hn : 0 ≤ w 100 10 ∧ w 100 10 ≤ 6) (hpre : w 100 10 ≠ 0 → MdOK w ∧ Cel (w 100 11) (w 100 12) (w 109 0)) : WP SH (d + 6) 227 0 [some (vR 100), none, none] [] (up w 100 37 x) (fun v w' => v = none ∧ w' = up w 100 37 (mixF (fKdM w) (dgPM w x (w 100 10).toNat) 3)) := by
  refine wp_iconst (a := 0) (pc' := 1) rfl rfl rfl ?_
  refine wp_istore_n (pc' := 2) rfl rfl (Nat.le_of_ble_eq_true rfl) rfl ?_
  dsimp only [lset, lset2, List.set, List.getElem?_cons_zero, List.getElem?_cons_succ]
  refine l_Mml2 (h := x) hT hn25 hn hpre (fun y9 x9 => ?_) (w 100 10).toNat 0 x _ _ rfl (by omega) rfl
  refine wp_iconst (a := 0) (pc' := 41) rfl rfl rfl ?_
  refine wp_istore_n (pc' := 42) rfl rfl (Nat.le_of_ble_eq_true rfl) rfl ?_
  dsimp only [lset, lset2, List.set, List.getElem?_cons_zero, List.getElem?_cons_succ]
  refine l_Mml3 hT (fun y9 x9 => ?_) 3 0 _ _ _ rfl rfl rfl
  refine wp_ret rfl rfl rfl ?_
  exact ⟨rfl, rfl⟩
set_option maxRecDepth 20000 in
set_option maxHeartbeats 4000000 in
theorem l_Mdgri {w : Hp} {d : Nat} {h r : Int} (hT : Stc w) (hr : 0 ≤ r ∧ r < 6) (hzr : -1 ≤ w 102 r ∧ w 102 r ≤ 40) {Q : Option PV → Hp → Prop} (K : ∀ (y : Int), WP SH (d + 1) 228 83 [some (vR 100), some (vI r), some (vI y)] [] (up w 100 37 (mixF (fun i => w 103 (40 * r + i)) h ((w 102 r).toNat))) Q) : ∀ (k m : Nat) (x y : Int) , y = m → m + k = (w 102 r).toNat → x = mixF (fun i => w 103 (40 * r + i)) h m → WP SH (d + 1) 228 56 [some (vR 100), some (vI r), some (vI y)] [] (up w 100 37 x) Q := by
  intro k
  induction k with
  | zero =>
    intro m x y  hy hmk hx
    have hTu : Stc (up w 100 37 x) := hT.putF (by decide)
    have e100 : ∀ k : Int, k ≠ 37 → up w 100 37 x 100 k = w 100 k := fun k hk => up_at hk
    have ew : ∀ q : Int, q ≠ 100 → up w 100 37 x q = w q := fun q hq => up_ne hq
    have hT := hTu
    have ez : up w 100 37 x 102 r = w 102 r := by rw [ew 102 (by decide)]
    refine wp_iload_n (pc' := 57) rfl rfl rfl ?_
    refine wp_aload_n (pc' := 58) rfl rfl rfl (by decide) ?_
    refine wp_getR (r' := 102) (ci := 10) (k0 := 5) (pc' := 61) rfl rfl (by decide) (by first | assumption | rfl) (hT.get 100 rfl) ?_
    refine wp_iload_n (pc' := 62) rfl rfl rfl ?_
    refine wp_iaload (pc' := 63) rfl rfl (by first | assumption | rfl) (by omega) ?_
    refine wp_icmp_ge (pc' := 66) (pt := 83) rfl rfl rfl (fun q_1 => ?_) (fun q_1 => ?_)
    · skip
      obtain rfl : m = (w 102 r).toNat := by omega
      rw [hx]
      exact K _
    · skip
      exfalso; omega
  | succ k ih =>
    intro m x y  hy hmk hx
    have hTu : Stc (up w 100 37 x) := hT.putF (by decide)
    have e100 : ∀ k : Int, k ≠ 37 → up w 100 37 x 100 k = w 100 k := fun k hk => up_at hk
    have ew : ∀ q : Int, q ≠ 100 → up w 100 37 x q = w q := fun q hq => up_ne hq
    have hT := hTu
    have ez : up w 100 37 x 102 r = w 102 r := by rw [ew 102 (by decide)]
    refine wp_iload_n (pc' := 57) rfl rfl rfl ?_
    refine wp_aload_n (pc' := 58) rfl rfl rfl (by decide) ?_
    refine wp_getR (r' := 102) (ci := 10) (k0 := 5) (pc' := 61) rfl rfl (by decide) (by first | assumption | rfl) (hT.get 100 rfl) ?_
    refine wp_iload_n (pc' := 62) rfl rfl rfl ?_
    refine wp_iaload (pc' := 63) rfl rfl (by first | assumption | rfl) (by omega) ?_
    refine wp_icmp_ge (pc' := 66) (pt := 83) rfl rfl rfl (fun q_1 => ?_) (fun q_1 => ?_)
    · skip
      exfalso; omega
    · skip
      refine wp_aload_n (pc' := 67) rfl rfl rfl (by decide) ?_
      refine wp_aload_n (pc' := 68) rfl rfl rfl (by decide) ?_
      refine wp_iload_n (pc' := 69) rfl rfl rfl ?_
      refine wp_iload_n (pc' := 70) rfl rfl rfl ?_
      refine wp_call (pc' := 73) rfl rfl rfl rfl rfl ⟨Nat.le_of_ble_eq_true rfl, Nat.le_of_ble_eq_true rfl, Nat.le_of_ble_eq_true rfl, Nat.le_of_ble_eq_true rfl, Nat.le_of_ble_eq_true rfl⟩ rfl (c_Mod_rowAt hT hr (by omega)) ?_
      intro v1 w9 hq1
      rw [hq1.1, hq1.2]
      clear hq1 v1 w9
      rw [ew 103 (by decide)]
      dsimp only [Option.toList, List.cons_append, List.nil_append, List.append_nil]
      refine wp_i2l (pc' := 74) rfl rfl ?_
      refine wp_call (pc' := 77) rfl rfl rfl rfl rfl ⟨Nat.le_of_ble_eq_true rfl, Nat.le_of_ble_eq_true rfl, Nat.le_of_ble_eq_true rfl, Nat.le_of_ble_eq_true rfl, Nat.le_of_ble_eq_true rfl⟩ rfl (c_Mod_mix) ?_
      rintro v1 w9 ⟨hv1, hw9⟩
      rw [hv1, hw9]
      clear hv1 hw9 v1 w9
      rw [up_eq, up_up]
      dsimp only [Option.toList, List.cons_append, List.nil_append, List.append_nil]
      refine wp_iinc (pc' := 80) rfl rfl rfl (inc_id (by omega) (by omega)) rfl ?_
      dsimp only [lset, lset2, List.set, List.getElem?_cons_zero, List.getElem?_cons_succ]
      refine wp_goto (pc' := 56) rfl rfl ?_
      refine ih (m + 1) _ _  (by omega) (by omega) ?_
      subst hy
      rw [hx]
      rfl
set_option maxRecDepth 20000 in
set_option maxHeartbeats 4000000 in
theorem l_Mdgr {w : Hp} {d : Nat} {h : Int} (hT : Stc w) (hz : ∀ r : Int, 0 ≤ r → r < 6 → -1 ≤ w 102 r ∧ w 102 r ≤ 40) {Q : Option PV → Hp → Prop} (K : ∀ (y : Int) (x4 : Option PV), WP SH (d + 1) 228 89 [some (vR 100), some (vI y), x4] [] (up w 100 37 (dgR (w 102) (fun r i => w 103 (40 * r + i)) h (6))) Q) : ∀ (k m : Nat) (x y : Int) (x4 : Option PV), y = m → m + k = 6 → x = dgR (w 102) (fun r i => w 103 (40 * r + i)) h m → WP SH (d + 1) 228 37 [some (vR 100), some (vI y), x4] [] (up w 100 37 x) Q := by
  intro k
  induction k with
  | zero =>
    intro m x y x4 hy hmk hx
    have hT0 := hT
    have hTu : Stc (up w 100 37 x) := hT.putF (by decide)
    have e100 : ∀ k : Int, k ≠ 37 → up w 100 37 x 100 k = w 100 k := fun k hk => up_at hk
    have ew : ∀ q : Int, q ≠ 100 → up w 100 37 x q = w q := fun q hq => up_ne hq
    have hT := hTu
    subst hy
    refine wp_iload_n (pc' := 38) rfl rfl rfl ?_
    refine wp_bipush (a := 6) (pc' := 40) rfl rfl rfl ?_
    refine wp_icmp_ge (pc' := 43) (pt := 89) rfl rfl rfl (fun q_1 => ?_) (fun q_1 => ?_)
    · skip
      obtain rfl : m = 6 := by omega
      rw [hx]
      exact K _ _
    · skip
      exfalso; omega
  | succ k ih =>
    intro m x y x4 hy hmk hx
    have hT0 := hT
    have hTu : Stc (up w 100 37 x) := hT.putF (by decide)
    have e100 : ∀ k : Int, k ≠ 37 → up w 100 37 x 100 k = w 100 k := fun k hk => up_at hk
    have ew : ∀ q : Int, q ≠ 100 → up w 100 37 x q = w q := fun q hq => up_ne hq
    have hT := hTu
    subst hy
    refine wp_iload_n (pc' := 38) rfl rfl rfl ?_
    refine wp_bipush (a := 6) (pc' := 40) rfl rfl rfl ?_
    refine wp_icmp_ge (pc' := 43) (pt := 89) rfl rfl rfl (fun q_1 => ?_) (fun q_1 => ?_)
    · skip
      exfalso; omega
    · skip
      refine wp_aload_n (pc' := 44) rfl rfl rfl (by decide) ?_
      refine wp_aload_n (pc' := 45) rfl rfl rfl (by decide) ?_
      refine wp_getR (r' := 102) (ci := 10) (k0 := 5) (pc' := 48) rfl rfl (by decide) (by first | assumption | rfl) (hT.get 100 rfl) ?_
      refine wp_iload_n (pc' := 49) rfl rfl rfl ?_
      refine wp_iaload (pc' := 50) rfl rfl (by first | assumption | rfl) (by omega) ?_
      refine wp_i2l (pc' := 51) rfl rfl ?_
      refine wp_call (pc' := 54) rfl rfl rfl rfl rfl ⟨Nat.le_of_ble_eq_true rfl, Nat.le_of_ble_eq_true rfl, Nat.le_of_ble_eq_true rfl, Nat.le_of_ble_eq_true rfl, Nat.le_of_ble_eq_true rfl⟩ rfl (c_Mod_mix) ?_
      rintro v1 w9 ⟨hv1, hw9⟩
      rw [hv1, hw9]
      clear hv1 hw9 v1 w9
      rw [up_eq, up_up]
      rw [ew 102 (by decide)]
      dsimp only [Option.toList, List.cons_append, List.nil_append, List.append_nil]
      refine wp_iconst (a := 0) (pc' := 55) rfl rfl rfl ?_
      refine wp_istore_n (pc' := 56) rfl rfl (Nat.le_of_ble_eq_true rfl) rfl ?_
      dsimp only [lset, lset2, List.set, List.getElem?_cons_zero, List.getElem?_cons_succ]
      refine l_Mdgri (r := (m : Int)) (h := mx x (w 102 m)) hT0 (by omega) (hz m (by omega) (by omega)) (fun y9 => ?_) (w 102 m).toNat 0 _ _ rfl (by omega) rfl
      refine wp_iinc (pc' := 86) rfl rfl rfl (inc_id (by omega) (by omega)) rfl ?_
      dsimp only [lset, lset2, List.set, List.getElem?_cons_zero, List.getElem?_cons_succ]
      refine wp_goto (pc' := 37) rfl rfl ?_
      refine ih (m + 1) _ _ _ (by omega) (by omega) ?_
      rw [hx]
      rfl
set_option maxRecDepth 20000 in
set_option maxHeartbeats 4000000 in
theorem c_Mod_byteAt {w : Hp} {d : Nat} {t i : Int} (hT : Stc w) (ht : 0 ≤ t ∧ t < 4) (hi : 0 ≤ i ∧ i < 60) (hs : i < w 105 t) : WP SH (d + 0) 159 0 [some (vR 100), some (vI t), some (vI i)] [] w (fun v w' => v = some (vI (w 106 (60 * t + i))) ∧ w' = w) := by
  refine wp_iload_n (pc' := 1) rfl rfl rfl ?_
  refine wp_aload_n (pc' := 2) rfl rfl rfl (by decide) ?_
  refine wp_getR (r' := 105) (ci := 10) (k0 := 8) (pc' := 5) rfl rfl (by decide) (by first | assumption | rfl) (hT.get 103 rfl) ?_
  refine wp_iload_n (pc' := 6) rfl rfl rfl ?_
  refine wp_iaload (pc' := 7) rfl rfl (by first | assumption | rfl) (by omega) ?_
  refine wp_icmp_ge (pc' := 10) (pt := 24) rfl rfl rfl (fun q_1 => ?_) (fun q_1 => ?_)
  · skip
    refine wp_iconst (a := 0) (pc' := 25) rfl rfl rfl ?_
    refine wp_ret rfl rfl rfl ?_
    first
    | exact ⟨rfl, rfl⟩
    | (exfalso; omega)
  · skip
    refine wp_aload_n (pc' := 11) rfl rfl rfl (by decide) ?_
    refine wp_getR (r' := 106) (ci := 10) (k0 := 9) (pc' := 14) rfl rfl (by decide) (by first | assumption | rfl) (hT.get 104 rfl) ?_
    refine wp_bipush (a := 60) (pc' := 16) rfl rfl rfl ?_
    refine wp_iload_n (pc' := 17) rfl rfl rfl ?_
    refine wp_imul (pc' := 18) rfl rfl (by first | exact w32_id (by omega) (by omega) | rfl) ?_
    refine wp_iload_n (pc' := 19) rfl rfl rfl ?_
    refine wp_iadd (pc' := 20) rfl rfl (by first | exact w32_id (by omega) (by omega) | rfl) ?_
    refine wp_baload (pc' := 21) rfl rfl (by first | assumption | rfl) rfl (by omega) ?_
    refine wp_goto (pc' := 25) rfl rfl ?_
    refine wp_ret rfl rfl rfl ?_
    first
    | exact ⟨rfl, rfl⟩
    | (exfalso; omega)
set_option maxRecDepth 20000 in
set_option maxHeartbeats 4000000 in
theorem l_Mdgti {w : Hp} {d : Nat} {h r : Int} (hT : Stc w) (hr : 0 ≤ r ∧ r < 4) (hzr : -1 ≤ w 105 r ∧ w 105 r ≤ 60) {Q : Option PV → Hp → Prop} (K : ∀ (y : Int), WP SH (d + 1) 228 136 [some (vR 100), some (vI r), some (vI y)] [] (up w 100 37 (mixF (fun i => w 106 (60 * r + i)) h ((w 105 r).toNat))) Q) : ∀ (k m : Nat) (x y : Int) , y = m → m + k = (w 105 r).toNat → x = mixF (fun i => w 106 (60 * r + i)) h m → WP SH (d + 1) 228 109 [some (vR 100), some (vI r), some (vI y)] [] (up w 100 37 x) Q := by
  intro k
  induction k with
  | zero =>
    intro m x y  hy hmk hx
    have hTu : Stc (up w 100 37 x) := hT.putF (by decide)
    have e100 : ∀ k : Int, k ≠ 37 → up w 100 37 x 100 k = w 100 k := fun k hk => up_at hk
    have ew : ∀ q : Int, q ≠ 100 → up w 100 37 x q = w q := fun q hq => up_ne hq
    have hT := hTu
    have ez : up w 100 37 x 105 r = w 105 r := by rw [ew 105 (by decide)]
    refine wp_iload_n (pc' := 110) rfl rfl rfl ?_
    refine wp_aload_n (pc' := 111) rfl rfl rfl (by decide) ?_
    refine wp_getR (r' := 105) (ci := 10) (k0 := 8) (pc' := 114) rfl rfl (by decide) (by first | assumption | rfl) (hT.get 103 rfl) ?_
    refine wp_iload_n (pc' := 115) rfl rfl rfl ?_
    refine wp_iaload (pc' := 116) rfl rfl (by first | assumption | rfl) (by omega) ?_
    refine wp_icmp_ge (pc' := 119) (pt := 136) rfl rfl rfl (fun q_1 => ?_) (fun q_1 => ?_)
    · skip
      obtain rfl : m = (w 105 r).toNat := by omega
      rw [hx]
      exact K _
    · skip
      exfalso; omega
  | succ k ih =>
    intro m x y  hy hmk hx
    have hTu : Stc (up w 100 37 x) := hT.putF (by decide)
    have e100 : ∀ k : Int, k ≠ 37 → up w 100 37 x 100 k = w 100 k := fun k hk => up_at hk
    have ew : ∀ q : Int, q ≠ 100 → up w 100 37 x q = w q := fun q hq => up_ne hq
    have hT := hTu
    have ez : up w 100 37 x 105 r = w 105 r := by rw [ew 105 (by decide)]
    refine wp_iload_n (pc' := 110) rfl rfl rfl ?_
    refine wp_aload_n (pc' := 111) rfl rfl rfl (by decide) ?_
    refine wp_getR (r' := 105) (ci := 10) (k0 := 8) (pc' := 114) rfl rfl (by decide) (by first | assumption | rfl) (hT.get 103 rfl) ?_
    refine wp_iload_n (pc' := 115) rfl rfl rfl ?_
    refine wp_iaload (pc' := 116) rfl rfl (by first | assumption | rfl) (by omega) ?_
    refine wp_icmp_ge (pc' := 119) (pt := 136) rfl rfl rfl (fun q_1 => ?_) (fun q_1 => ?_)
    · skip
      exfalso; omega
    · skip
      refine wp_aload_n (pc' := 120) rfl rfl rfl (by decide) ?_
      refine wp_aload_n (pc' := 121) rfl rfl rfl (by decide) ?_
      refine wp_iload_n (pc' := 122) rfl rfl rfl ?_
      refine wp_iload_n (pc' := 123) rfl rfl rfl ?_
      refine wp_call (pc' := 126) rfl rfl rfl rfl rfl ⟨Nat.le_of_ble_eq_true rfl, Nat.le_of_ble_eq_true rfl, Nat.le_of_ble_eq_true rfl, Nat.le_of_ble_eq_true rfl, Nat.le_of_ble_eq_true rfl⟩ rfl (c_Mod_byteAt hT hr (by omega) (by omega)) ?_
      intro v1 w9 hq1
      rw [hq1.1, hq1.2]
      clear hq1 v1 w9
      rw [ew 106 (by decide)]
      dsimp only [Option.toList, List.cons_append, List.nil_append, List.append_nil]
      refine wp_i2l (pc' := 127) rfl rfl ?_
      refine wp_call (pc' := 130) rfl rfl rfl rfl rfl ⟨Nat.le_of_ble_eq_true rfl, Nat.le_of_ble_eq_true rfl, Nat.le_of_ble_eq_true rfl, Nat.le_of_ble_eq_true rfl, Nat.le_of_ble_eq_true rfl⟩ rfl (c_Mod_mix) ?_
      rintro v1 w9 ⟨hv1, hw9⟩
      rw [hv1, hw9]
      clear hv1 hw9 v1 w9
      rw [up_eq, up_up]
      dsimp only [Option.toList, List.cons_append, List.nil_append, List.append_nil]
      refine wp_iinc (pc' := 133) rfl rfl rfl (inc_id (by omega) (by omega)) rfl ?_
      dsimp only [lset, lset2, List.set, List.getElem?_cons_zero, List.getElem?_cons_succ]
      refine wp_goto (pc' := 109) rfl rfl ?_
      refine ih (m + 1) _ _  (by omega) (by omega) ?_
      subst hy
      rw [hx]
      rfl
set_option maxRecDepth 20000 in
set_option maxHeartbeats 4000000 in
theorem l_Mdgt {w : Hp} {d : Nat} {h : Int} (hT : Stc w) (hz : ∀ r : Int, 0 ≤ r → r < 4 → -1 ≤ w 105 r ∧ w 105 r ≤ 60) {Q : Option PV → Hp → Prop} (K : ∀ (y : Int) (x4 : Option PV), WP SH (d + 1) 228 142 [some (vR 100), some (vI y), x4] [] (up w 100 37 (dgR (w 105) (fun r i => w 106 (60 * r + i)) h (4))) Q) : ∀ (k m : Nat) (x y : Int) (x4 : Option PV), y = m → m + k = 4 → x = dgR (w 105) (fun r i => w 106 (60 * r + i)) h m → WP SH (d + 1) 228 91 [some (vR 100), some (vI y), x4] [] (up w 100 37 x) Q := by
  intro k
  induction k with
  | zero =>
    intro m x y x4 hy hmk hx
    have hT0 := hT
    have hTu : Stc (up w 100 37 x) := hT.putF (by decide)
    have e100 : ∀ k : Int, k ≠ 37 → up w 100 37 x 100 k = w 100 k := fun k hk => up_at hk
    have ew : ∀ q : Int, q ≠ 100 → up w 100 37 x q = w q := fun q hq => up_ne hq
    have hT := hTu
    subst hy
    refine wp_iload_n (pc' := 92) rfl rfl rfl ?_
    refine wp_iconst (a := 4) (pc' := 93) rfl rfl rfl ?_
    refine wp_icmp_ge (pc' := 96) (pt := 142) rfl rfl rfl (fun q_1 => ?_) (fun q_1 => ?_)
    · skip
      obtain rfl : m = 4 := by omega
      rw [hx]
      exact K _ _
    · skip
      exfalso; omega
  | succ k ih =>
    intro m x y x4 hy hmk hx
    have hT0 := hT
    have hTu : Stc (up w 100 37 x) := hT.putF (by decide)
    have e100 : ∀ k : Int, k ≠ 37 → up w 100 37 x 100 k = w 100 k := fun k hk => up_at hk
    have ew : ∀ q : Int, q ≠ 100 → up w 100 37 x q = w q := fun q hq => up_ne hq
    have hT := hTu
    subst hy
    refine wp_iload_n (pc' := 92) rfl rfl rfl ?_
    refine wp_iconst (a := 4) (pc' := 93) rfl rfl rfl ?_
    refine wp_icmp_ge (pc' := 96) (pt := 142) rfl rfl rfl (fun q_1 => ?_) (fun q_1 => ?_)
    · skip
      exfalso; omega
    · skip
      refine wp_aload_n (pc' := 97) rfl rfl rfl (by decide) ?_
      refine wp_aload_n (pc' := 98) rfl rfl rfl (by decide) ?_
      refine wp_getR (r' := 105) (ci := 10) (k0 := 8) (pc' := 101) rfl rfl (by decide) (by first | assumption | rfl) (hT.get 103 rfl) ?_
      refine wp_iload_n (pc' := 102) rfl rfl rfl ?_
      refine wp_iaload (pc' := 103) rfl rfl (by first | assumption | rfl) (by omega) ?_
      refine wp_i2l (pc' := 104) rfl rfl ?_
      refine wp_call (pc' := 107) rfl rfl rfl rfl rfl ⟨Nat.le_of_ble_eq_true rfl, Nat.le_of_ble_eq_true rfl, Nat.le_of_ble_eq_true rfl, Nat.le_of_ble_eq_true rfl, Nat.le_of_ble_eq_true rfl⟩ rfl (c_Mod_mix) ?_
      rintro v1 w9 ⟨hv1, hw9⟩
      rw [hv1, hw9]
      clear hv1 hw9 v1 w9
      rw [up_eq, up_up]
      rw [ew 105 (by decide)]
      dsimp only [Option.toList, List.cons_append, List.nil_append, List.append_nil]
      refine wp_iconst (a := 0) (pc' := 108) rfl rfl rfl ?_
      refine wp_istore_n (pc' := 109) rfl rfl (Nat.le_of_ble_eq_true rfl) rfl ?_
      dsimp only [lset, lset2, List.set, List.getElem?_cons_zero, List.getElem?_cons_succ]
      refine l_Mdgti (r := (m : Int)) (h := mx x (w 105 m)) hT0 (by omega) (hz m (by omega) (by omega)) (fun y9 => ?_) (w 105 m).toNat 0 _ _ rfl (by omega) rfl
      refine wp_iinc (pc' := 139) rfl rfl rfl (inc_id (by omega) (by omega)) rfl ?_
      dsimp only [lset, lset2, List.set, List.getElem?_cons_zero, List.getElem?_cons_succ]
      refine wp_goto (pc' := 91) rfl rfl ?_
      refine ih (m + 1) _ _ _ (by omega) (by omega) ?_
      rw [hx]
      rfl
set_option maxRecDepth 20000 in
set_option maxHeartbeats 4000000 in
theorem c_Mod_digest {w : Hp} {d : Nat} (hT : Stc w) (hn25 : 0 ≤ w 100 11 * w 100 12 ∧ w 100 11 * w 100 12 ≤ 25) (hn : 0 ≤ w 100 10 ∧ w 100 10 ≤ 6) (hpre : w 100 10 ≠ 0 → MdOK w ∧ Cel (w 100 11) (w 100 12) (w 109 0)) (hzr : ∀ r : Int, 0 ≤ r → r < 6 → -1 ≤ w 102 r ∧ w 102 r ≤ 40) (hzt : ∀ r : Int, 0 ≤ r → r < 4 → -1 ≤ w 105 r ∧ w 105 r ≤ 60) : WP SH (d + 7) 228 0 [some (vR 100), none, none] [] w (fun v w' => v = some (vL (dgM w)) ∧ w' = up w 100 37 (dgM w)) := by
  refine wp_aload_n (pc' := 1) rfl rfl rfl (by decide) ?_
  refine wp_ldc2_w (a := 17) (pc' := 4) rfl rfl rfl ?_
  refine wp_putL (ci := 10) (k0 := 37) (pc' := 7) rfl rfl (by decide) (by first | assumption | rfl) ?_
  refine wp_iconst (a := 0) (pc' := 8) rfl rfl rfl ?_
  refine wp_istore_n (pc' := 9) rfl rfl (Nat.le_of_ble_eq_true rfl) rfl ?_
  dsimp only [lset, lset2, List.set, List.getElem?_cons_zero, List.getElem?_cons_succ]
  refine l_Mdg1 (h := 17) hT hn25 hn hpre (fun y9 x9 => ?_) 11 0 17 _ _ rfl rfl rfl
  refine wp_aload_n (pc' := 32) rfl rfl rfl (by decide) ?_
  refine wp_call (pc' := 35) rfl rfl rfl rfl rfl ⟨Nat.le_of_ble_eq_true rfl, Nat.le_of_ble_eq_true rfl, Nat.le_of_ble_eq_true rfl, Nat.le_of_ble_eq_true rfl, Nat.le_of_ble_eq_true rfl⟩ rfl (c_Mod_mixLand hT hn25 hn hpre) ?_
  rintro v1 w9 ⟨hv1, hw9⟩
  rw [hv1, hw9]
  clear hv1 hw9 v1 w9
  dsimp only [Option.toList, List.cons_append, List.nil_append, List.append_nil]
  refine wp_iconst (a := 0) (pc' := 36) rfl rfl rfl ?_
  refine wp_istore_n (pc' := 37) rfl rfl (Nat.le_of_ble_eq_true rfl) rfl ?_
  dsimp only [lset, lset2, List.set, List.getElem?_cons_zero, List.getElem?_cons_succ]
  refine l_Mdgr hT hzr (fun y9 x9 => ?_) 6 0 _ _ _ rfl rfl rfl
  refine wp_iconst (a := 0) (pc' := 90) rfl rfl rfl ?_
  refine wp_istore_n (pc' := 91) rfl rfl (Nat.le_of_ble_eq_true rfl) rfl ?_
  dsimp only [lset, lset2, List.set, List.getElem?_cons_zero, List.getElem?_cons_succ]
  refine l_Mdgt hT hzt (fun y9 x9 => ?_) 4 0 _ _ _ rfl rfl rfl
  refine wp_aload_n (pc' := 143) rfl rfl rfl (by decide) ?_
  refine wp_getL (ci := 10) (k0 := 37) (pc' := 146) rfl rfl (by decide) (by first | assumption | rfl) ?_
  refine wp_ret rfl rfl rfl ?_
  exact ⟨by rw [up_eq]; rfl, rfl⟩
theorem dg_eq {w : Hp} (h : Inv w) : dgX w = dgM w := by
  obtain ⟨hn25, b11, b12, b10, hn6, hem, m0, m1, m2, m23, hyr, hdd, hpre⟩ := h.base
  obtain ⟨-, -, -, -, hR, hX, -, hK⟩ := id h
  unfold dgX dgM
  have e1 : mixF (sCntX w) 17 11 = mixF (sCntM w) 17 11 := mixF_congr (fun j a b => cnt_eq h a (by omega))
  have e2 : ∀ x : Int, dgP w x (w 3 2).toNat = dgPM w x (w 100 10).toNat := fun x => by
    rw [b10]
    refine seqN_congr (fun m hm y => mixF_congr (fun j a b => ?_))
    have hp := (hpre (by omega)).2.2.2.2 m (by omega) (by omega)
    unfold sOne sOneM
    rw [hp.1, hp.2.1, hp.2.2, b11, b12, m0, m1]
  have e3 : ∀ x : Int, mixF (fKd w) x 3 = mixF (fKdM w) x 3 := fun x => mixF_congr (fun j a b => by
    unfold fKd fKdM
    rcases hK.emp a (by omega) with z | z
    · rw [if_pos z.2, if_pos z.1]
    · rw [if_neg z.2.1, if_neg (by omega)]
      exact z.2.2.2.1.2.2.2.2.2.2)
  rw [e1, e2, e3]
  rw [dgR_congr (Z' := w 102) (P' := fun r i => w 103 (40 * r + i)) (fun j a b => (hR j a (by omega)).1) (fun j a b i c e => ((hR j a (by omega)).2.2 i c e).1)]
  exact dgR_congr (fun j a b => (hX j a (by omega)).1) (fun j a b i c e => ((hX j a (by omega)).2.2 i c e).1)
set_option maxRecDepth 20000 in
set_option maxHeartbeats 4000000 in
theorem p_digest {w : Hp} {d : Nat} (hI : Inv w) : WP SH (d + 9) 122 0 [some (vR 0), none, none, none, none] [] w (fun v0 w1 => ∃ a, v0 = some (vL a) ∧ w1 (-2) = w (-2) ∧ WP SH (d + 9) 228 0 [some (vR 100), none, none] [] w1 (fun v2 w2 => v2 = some (vL a) ∧ w2 (-2) = w1 (-2) ∧ Inv w2)) := by
  obtain ⟨hT, hRO, hIF, hITo, hIR, hIT, hIL, hIK⟩ := id hI
  obtain ⟨hn25, b11, b12, b10, hn6, hem, m0, m1, m2, m23, hyr, hdd, hpre⟩ := hI.base
  have hmm : w 100 11 * w 100 12 = w 3 0 * w 3 1 := by rw [b11, b12]
  refine (c_VH_digest hT hRO hn25 hn6 hpre (fun r a b => by have := hIR r a b; omega) (fun r a b => by have := hIT r a b; omega)).mono (fun v w1 hq => ?_)
  rw [hq.2]
  refine ⟨_, hq.1, rfl, ?_⟩
  refine (c_Mod_digest hT (by omega) (by omega) (fun hz => ⟨(hpre (by omega)).2.1, by rw [b11, b12, m0]; exact (hpre (by omega)).2.2.1⟩) (fun r a b => (hIR r a b).2.1) (fun r a b => (hIT r a b).2.1)).mono (fun v2 w2 hq2 => ?_)
  refine ⟨by rw [hq2.1, dg_eq hI], by rw [hq2.2, up_ne (by decide)], hI.query (w' := w2) (by rw [hq2.2]; exact (SameF.rf _ _ _).put (Or.inr (by decide))) ?_⟩
  rw [hq2.2, up_ne (by decide), up_at (by decide)]
  exact hITo
