/-! what fits the pairs -/
def fitN (g P : Int → Int) : Nat → Int
  | 0 => 1
  | m + 1 => if fitN g P m = 1 ∧ g (P (2 * m)) = P (2 * m + 1) then 1 else 0
theorem fitN01 (g P : Int → Int) : ∀ m : Nat, fitN g P m = 0 ∨ fitN g P m = 1 := by
  intro m
  cases m with
  | zero => exact Or.inr rfl
  | succ m => unfold fitN; split <;> simp
theorem fitN_congr {g g' P P' : Int → Int} : ∀ {M : Nat}, (∀ j : Int, 0 ≤ j → j < 2 * M → P j = P' j) → (∀ q : Int, 0 ≤ q → q < M → g (P' (2 * q)) = g' (P' (2 * q))) → fitN g P M = fitN g' P' M := by
  intro M
  induction M with
  | zero => intro _ _; rfl
  | succ M ih =>
    intro h h2
    have h3 := h2 M (by omega) (by omega)
    unfold fitN
    rw [ih (fun j a b => h j a (by omega)) (fun q a b => h2 q a (by omega)), h (2 * (M : Int)) (by omega) (by omega), h (2 * (M : Int) + 1) (by omega) (by omega), h3]
/-- whom cell x fits, by people's gains; what kind x fits one's gains -/
def gCel (c : Int) (K H : Int → Int) (x : Int) : Int → Int := fun i => sG c (K i) (H i) x
def gKnd (c h x : Int) : Int → Int := fun cell => sG c x h cell
set_option maxRecDepth 20000 in
set_option maxHeartbeats 4000000 in
theorem l_fitC {w : Hp} {d : Nat} {acc y : Int} {s pa : Int} (hT : Stc w) (hst : StripAt w s pa 40) (hz : 0 ≤ w s 1 ∧ w s 1 ≤ 40) (he : w s 1 % 2 = 0) (hl : LnOK w) (hw : ∀ q : Int, 0 ≤ q → q < w s 1 / 2 → 0 ≤ w pa (2 * q) ∧ w pa (2 * q) < w 3 2) (hy : Cel (w 3 0) (w 3 1) y) {Q : Option PV → Hp → Prop} (K : ∀ p : Int, WP SH (d + 2) 15 74 [some (vR 45), some (vR 3), some (vR s), some (vI acc), some (vI y), some (vI (fitN (gCel (w 3 0) (w 4) (w 5) y) (w pa) (w s 1 / 2).toNat)), some (vI p)] [] w Q) : ∀ (k m : Nat) (a p : Int), p = 2 * (m : Int) → 2 * ((m : Int) + k) = w s 1 → a = fitN (gCel (w 3 0) (w 4) (w 5) y) (w pa) m → WP SH (d + 2) 15 20 [some (vR 45), some (vR 3), some (vR s), some (vI acc), some (vI y), some (vI (a)), some (vI p)] [] w Q := by
  intro k
  induction k with
  | zero =>
    intro m a p hp hmk ha
    obtain ⟨hs7, hpn, hsp, hs0, hp0, hne, hnn⟩ := id hst
    have hln := hl.2.1
    subst hp
    have ha01 := fitN01 (gCel (w 3 0) (w 4) (w 5) y) (w pa) m
    rw [← ha] at ha01
    refine wp_iload (pc' := 22) rfl rfl rfl ?_
    refine wp_iconst (a := 1) (pc' := 23) rfl rfl rfl ?_
    refine wp_iadd (pc' := 24) rfl rfl (by first | exact w32_id (by omega) (by omega) | rfl) ?_
    refine wp_aload_n (pc' := 25) rfl rfl rfl (by omega) ?_
    refine wp_getI (ci := 7) (k0 := 1) (pc' := 28) rfl rfl (by decide) (by first | assumption | rfl) ?_
    refine wp_icmp_ge (pc' := 31) (pt := 74) rfl rfl rfl (fun q_1 => ?_) (fun q_1 => ?_)
    · skip
      rw [ha, show m = (w s 1 / 2).toNat by omega]
      exact K _
    · skip
      exfalso; omega
  | succ k ih =>
    intro m a p hp hmk ha
    obtain ⟨hs7, hpn, hsp, hs0, hp0, hne, hnn⟩ := id hst
    have hln := hl.2.1
    subst hp
    have ha01 := fitN01 (gCel (w 3 0) (w 4) (w 5) y) (w pa) m
    rw [← ha] at ha01
    refine wp_iload (pc' := 22) rfl rfl rfl ?_
    refine wp_iconst (a := 1) (pc' := 23) rfl rfl rfl ?_
    refine wp_iadd (pc' := 24) rfl rfl (by first | exact w32_id (by omega) (by omega) | rfl) ?_
    refine wp_aload_n (pc' := 25) rfl rfl rfl (by omega) ?_
    refine wp_getI (ci := 7) (k0 := 1) (pc' := 28) rfl rfl (by decide) (by first | assumption | rfl) ?_
    refine wp_icmp_ge (pc' := 31) (pt := 74) rfl rfl rfl (fun q_1 => ?_) (fun q_1 => ?_)
    · skip
      exfalso; omega
    · skip
      refine wp_iload (pc' := 33) rfl rfl rfl ?_
      refine wp_if_eq (pc' := 36) (pt := 65) rfl rfl rfl (fun q_2 => ?_) (fun q_2 => ?_)
      · skip
        refine wp_iconst (a := 0) (pc' := 66) rfl rfl rfl ?_
        refine wp_istore (pc' := 68) rfl rfl (Nat.le_of_ble_eq_true rfl) rfl ?_
        dsimp only [lset, lset2, List.set, List.getElem?_cons_zero, List.getElem?_cons_succ]
        refine wp_iinc (pc' := 71) rfl rfl rfl (inc_id (by omega) (by omega)) rfl ?_
        dsimp only [lset, lset2, List.set, List.getElem?_cons_zero, List.getElem?_cons_succ]
        refine wp_goto (pc' := 20) rfl rfl ?_
        refine ih (m + 1) _ _ (by omega) (by omega) ?_
        rw [fitN, ← ha]
        unfold gCel
        try dsimp only
        first
        | (rw [if_pos ⟨by omega, by omega⟩])
        | (rw [if_neg (fun z => by have z1 := z.1; have z2 := z.2; omega)])
      · skip
        refine wp_aload_n (pc' := 37) rfl rfl rfl (by decide) ?_
        refine wp_aload_n (pc' := 38) rfl rfl rfl (by omega) ?_
        refine wp_getR (r' := pa) (ci := 7) (k0 := 0) (pc' := 41) rfl rfl (by decide) (by first | assumption | rfl) (hsp) ?_
        refine wp_iload (pc' := 43) rfl rfl rfl ?_
        refine wp_iaload (pc' := 44) rfl rfl (by first | assumption | rfl) (by omega) ?_
        refine wp_iload (pc' := 46) rfl rfl rfl ?_
        refine wp_call (pc' := 49) rfl rfl rfl rfl rfl ⟨Nat.le_of_ble_eq_true rfl, Nat.le_of_ble_eq_true rfl, Nat.le_of_ble_eq_true rfl, Nat.le_of_ble_eq_true rfl, Nat.le_of_ble_eq_true rfl⟩ rfl (c_Land_gains hl.1 (by have := hw m (by omega) (by omega); omega) hT hy (hl.2.2 _ (hw m (by omega) (by omega)).1 (hw m (by omega) (by omega)).2).2.1) ?_
        intro v1 w9 hq1
        rw [hq1.1, hq1.2]
        clear hq1 v1 w9
        dsimp only [Option.toList, List.cons_append, List.nil_append, List.append_nil]
        refine wp_aload_n (pc' := 50) rfl rfl rfl (by omega) ?_
        refine wp_getR (r' := pa) (ci := 7) (k0 := 0) (pc' := 53) rfl rfl (by decide) (by first | assumption | rfl) (hsp) ?_
        refine wp_iload (pc' := 55) rfl rfl rfl ?_
        refine wp_iconst (a := 1) (pc' := 56) rfl rfl rfl ?_
        refine wp_iadd (pc' := 57) rfl rfl (by first | exact w32_id (by omega) (by omega) | rfl) ?_
        refine wp_iaload (pc' := 58) rfl rfl (by first | assumption | rfl) (by omega) ?_
        refine wp_icmp_ne (pc' := 61) (pt := 65) rfl rfl rfl (fun q_3 => ?_) (fun q_3 => ?_)
        · skip
          refine wp_iconst (a := 0) (pc' := 66) rfl rfl rfl ?_
          refine wp_istore (pc' := 68) rfl rfl (Nat.le_of_ble_eq_true rfl) rfl ?_
          dsimp only [lset, lset2, List.set, List.getElem?_cons_zero, List.getElem?_cons_succ]
          refine wp_iinc (pc' := 71) rfl rfl rfl (inc_id (by omega) (by omega)) rfl ?_
          dsimp only [lset, lset2, List.set, List.getElem?_cons_zero, List.getElem?_cons_succ]
          refine wp_goto (pc' := 20) rfl rfl ?_
          refine ih (m + 1) _ _ (by omega) (by omega) ?_
          rw [fitN, ← ha]
          unfold gCel
          try dsimp only
          first
          | (rw [if_pos ⟨by omega, by omega⟩])
          | (rw [if_neg (fun z => by have z1 := z.1; have z2 := z.2; omega)])
        · skip
          refine wp_iconst (a := 1) (pc' := 62) rfl rfl rfl ?_
          refine wp_goto (pc' := 66) rfl rfl ?_
          refine wp_istore (pc' := 68) rfl rfl (Nat.le_of_ble_eq_true rfl) rfl ?_
          dsimp only [lset, lset2, List.set, List.getElem?_cons_zero, List.getElem?_cons_succ]
          refine wp_iinc (pc' := 71) rfl rfl rfl (inc_id (by omega) (by omega)) rfl ?_
          dsimp only [lset, lset2, List.set, List.getElem?_cons_zero, List.getElem?_cons_succ]
          refine wp_goto (pc' := 20) rfl rfl ?_
          refine ih (m + 1) _ _ (by omega) (by omega) ?_
          rw [fitN, ← ha]
          unfold gCel
          try dsimp only
          first
          | (rw [if_pos ⟨by omega, by omega⟩])
          | (rw [if_neg (fun z => by have z1 := z.1; have z2 := z.2; omega)])
set_option maxRecDepth 20000 in
set_option maxHeartbeats 4000000 in
theorem l_fitCells {w : Hp} {d : Nat} {s pa : Int} (hT : Stc w) (hst : StripAt w s pa 40) (hz : 0 ≤ w s 1 ∧ w s 1 ≤ 40) (he : w s 1 % 2 = 0) (hl : LnOK w) (hw : ∀ q : Int, 0 ≤ q → q < w s 1 / 2 → 0 ≤ w pa (2 * q) ∧ w pa (2 * q) < w 3 2) : ∀ (k m : Nat) (z y : Int) (x5 x6 : Option PV), y = m → m + k = (w 3 0 * w 3 1).toNat → z = orN (fun y => fitN (gCel (w 3 0) (w 4) (w 5) y) (w pa) (w s 1 / 2).toNat) m → WP SH (d + 2) 15 5 [some (vR 45), some (vR 3), some (vR s), some (vI z), some (vI y), x5, x6] [] w (fun v w' => v = some (vI (orN (fun y => fitN (gCel (w 3 0) (w 4) (w 5) y) (w pa) (w s 1 / 2).toNat) (w 3 0 * w 3 1).toNat)) ∧ w' = w) := by
  intro k
  induction k with
  | zero =>
    intro m z y x5 x6 hy hmk hs
    obtain ⟨hs7, hpn, hsp, hs0, hp0, hne, hnn⟩ := id hst
    have hln := hl.2.1
    have hml := hl.1.mul
    refine wp_iload (pc' := 7) rfl rfl rfl ?_
    refine wp_aload_n (pc' := 8) rfl rfl rfl (by decide) ?_
    refine wp_call (pc' := 11) rfl rfl rfl rfl rfl ⟨Nat.le_of_ble_eq_true rfl, Nat.le_of_ble_eq_true rfl, Nat.le_of_ble_eq_true rfl, Nat.le_of_ble_eq_true rfl, Nat.le_of_ble_eq_true rfl⟩ rfl (c_Land_cells (by omega)) ?_
    intro v1 w9 hq1
    rw [hq1.1, hq1.2]
    clear hq1 v1 w9
    dsimp only [Option.toList, List.cons_append, List.nil_append, List.append_nil]
    refine wp_icmp_ge (pc' := 14) (pt := 96) rfl rfl rfl (fun q_1 => ?_) (fun q_1 => ?_)
    · skip
      refine wp_iload_n (pc' := 97) rfl rfl rfl ?_
      refine wp_ret rfl rfl rfl ?_
      obtain rfl : m = (w 3 0 * w 3 1).toNat := by omega
      exact ⟨by rw [hs], rfl⟩
    · skip
      exfalso; omega
  | succ k ih =>
    intro m z y x5 x6 hy hmk hs
    obtain ⟨hs7, hpn, hsp, hs0, hp0, hne, hnn⟩ := id hst
    have hln := hl.2.1
    have hml := hl.1.mul
    refine wp_iload (pc' := 7) rfl rfl rfl ?_
    refine wp_aload_n (pc' := 8) rfl rfl rfl (by decide) ?_
    refine wp_call (pc' := 11) rfl rfl rfl rfl rfl ⟨Nat.le_of_ble_eq_true rfl, Nat.le_of_ble_eq_true rfl, Nat.le_of_ble_eq_true rfl, Nat.le_of_ble_eq_true rfl, Nat.le_of_ble_eq_true rfl⟩ rfl (c_Land_cells (by omega)) ?_
    intro v1 w9 hq1
    rw [hq1.1, hq1.2]
    clear hq1 v1 w9
    dsimp only [Option.toList, List.cons_append, List.nil_append, List.append_nil]
    refine wp_icmp_ge (pc' := 14) (pt := 96) rfl rfl rfl (fun q_1 => ?_) (fun q_1 => ?_)
    · skip
      exfalso; omega
    · skip
      refine wp_iconst (a := 1) (pc' := 15) rfl rfl rfl ?_
      refine wp_istore (pc' := 17) rfl rfl (Nat.le_of_ble_eq_true rfl) rfl ?_
      dsimp only [lset, lset2, List.set, List.getElem?_cons_zero, List.getElem?_cons_succ]
      refine wp_iconst (a := 0) (pc' := 18) rfl rfl rfl ?_
      refine wp_istore (pc' := 20) rfl rfl (Nat.le_of_ble_eq_true rfl) rfl ?_
      dsimp only [lset, lset2, List.set, List.getElem?_cons_zero, List.getElem?_cons_succ]
      have hf01 := fitN01 (gCel (w 3 0) (w 4) (w 5) y) (w pa) (w s 1 / 2).toNat
      have hyc : Cel (w 3 0) (w 3 1) y := ⟨by omega, by omega⟩
      refine l_fitC hT hst hz he hl hw hyc (fun p => ?_) (w s 1 / 2).toNat 0 _ _ rfl (by omega) rfl
      refine wp_iload_n (pc' := 75) rfl rfl rfl ?_
      refine wp_iload (pc' := 77) rfl rfl rfl ?_
      refine wp_if_eq (pc' := 80) (pt := 87) rfl rfl rfl (fun q_22 => ?_) (fun q_22 => ?_)
      · skip
        refine wp_iconst (a := 0) (pc' := 88) rfl rfl rfl ?_
        refine wp_ior (pc' := 89) rfl rfl rfl ?_
        refine wp_istore_n (pc' := 90) rfl rfl (Nat.le_of_ble_eq_true rfl) rfl ?_
        dsimp only [lset, lset2, List.set, List.getElem?_cons_zero, List.getElem?_cons_succ]
        refine wp_iinc (pc' := 93) rfl rfl rfl (inc_id (by omega) (by omega)) rfl ?_
        dsimp only [lset, lset2, List.set, List.getElem?_cons_zero, List.getElem?_cons_succ]
        refine wp_goto (pc' := 5) rfl rfl ?_
        exact ih (m + 1) _ _ _ _ (by omega) (by omega) (by rw [orN, ← hs]; subst hy; (try dsimp only); split <;> first | rfl | (exfalso; omega))
      · skip
        refine wp_iconst (a := 1) (pc' := 81) rfl rfl rfl ?_
        refine wp_iload (pc' := 83) rfl rfl rfl ?_
        refine wp_ishl (pc' := 84) rfl rfl rfl ?_
        refine wp_goto (pc' := 88) rfl rfl ?_
        refine wp_ior (pc' := 89) rfl rfl rfl ?_
        refine wp_istore_n (pc' := 90) rfl rfl (Nat.le_of_ble_eq_true rfl) rfl ?_
        dsimp only [lset, lset2, List.set, List.getElem?_cons_zero, List.getElem?_cons_succ]
        refine wp_iinc (pc' := 93) rfl rfl rfl (inc_id (by omega) (by omega)) rfl ?_
        dsimp only [lset, lset2, List.set, List.getElem?_cons_zero, List.getElem?_cons_succ]
        refine wp_goto (pc' := 5) rfl rfl ?_
        exact ih (m + 1) _ _ _ _ (by omega) (by omega) (by rw [orN, ← hs]; subst hy; (try dsimp only); split <;> first | rfl | (exfalso; omega))
set_option maxRecDepth 20000 in
set_option maxHeartbeats 4000000 in
theorem c_Clues_fittingCells {w : Hp} {d : Nat} {s pa : Int} (hT : Stc w) (hst : StripAt w s pa 40) (hz : 0 ≤ w s 1 ∧ w s 1 ≤ 40) (he : w s 1 % 2 = 0) (hl : LnOK w) (hw : ∀ q : Int, 0 ≤ q → q < w s 1 / 2 → 0 ≤ w pa (2 * q) ∧ w pa (2 * q) < w 3 2) : WP SH (d + 2) 15 0 [some (vR 45), some (vR 3), some (vR s), none, none, none, none] [] w (fun v w' => v = some (vI (orN (fun y => fitN (gCel (w 3 0) (w 4) (w 5) y) (w pa) (w s 1 / 2).toNat) (w 3 0 * w 3 1).toNat)) ∧ w' = w) := by
  obtain ⟨hs7, hpn, hsp, hs0, hp0, hne, hnn⟩ := id hst
  have hln := hl.2.1
  refine wp_iconst (a := 0) (pc' := 1) rfl rfl rfl ?_
  refine wp_istore_n (pc' := 2) rfl rfl (Nat.le_of_ble_eq_true rfl) rfl ?_
  dsimp only [lset, lset2, List.set, List.getElem?_cons_zero, List.getElem?_cons_succ]
  refine wp_iconst (a := 0) (pc' := 3) rfl rfl rfl ?_
  refine wp_istore (pc' := 5) rfl rfl (Nat.le_of_ble_eq_true rfl) rfl ?_
  dsimp only [lset, lset2, List.set, List.getElem?_cons_zero, List.getElem?_cons_succ]
  exact l_fitCells hT hst hz he hl hw (w 3 0 * w 3 1).toNat 0 _ _ _ _ rfl (by omega) rfl
set_option maxRecDepth 20000 in
set_option maxHeartbeats 4000000 in
theorem l_fitK {w : Hp} {d : Nat} {acc y i0 : Int} {s pa : Int} (hT : Stc w) (hst : StripAt w s pa 40) (hz : 0 ≤ w s 1 ∧ w s 1 ≤ 40) (he : w s 1 % 2 = 0) (hl : LnOK w) (hw : ∀ q : Int, 0 ≤ q → q < w s 1 / 2 → 0 ≤ w pa (2 * q) ∧ w pa (2 * q) < w 3 0 * w 3 1) (hi : 0 ≤ i0 ∧ i0 < w 3 2) {Q : Option PV → Hp → Prop} (K : ∀ p : Int, WP SH (d + 2) 16 74 [some (vR 45), some (vR 3), some (vI i0), some (vR s), some (vI acc), some (vI y), some (vI (fitN (gKnd (w 3 0) (w 5 i0) y) (w pa) (w s 1 / 2).toNat)), some (vI p)] [] w Q) : ∀ (k m : Nat) (a p : Int), p = 2 * (m : Int) → 2 * ((m : Int) + k) = w s 1 → a = fitN (gKnd (w 3 0) (w 5 i0) y) (w pa) m → WP SH (d + 2) 16 19 [some (vR 45), some (vR 3), some (vI i0), some (vR s), some (vI acc), some (vI y), some (vI (a)), some (vI p)] [] w Q := by
  intro k
  induction k with
  | zero =>
    intro m a p hp hmk ha
    obtain ⟨hs7, hpn, hsp, hs0, hp0, hne, hnn⟩ := id hst
    have hln := hl.2.1
    subst hp
    have ha01 := fitN01 (gKnd (w 3 0) (w 5 i0) y) (w pa) m
    rw [← ha] at ha01
    refine wp_iload (pc' := 21) rfl rfl rfl ?_
    refine wp_iconst (a := 1) (pc' := 22) rfl rfl rfl ?_
    refine wp_iadd (pc' := 23) rfl rfl (by first | exact w32_id (by omega) (by omega) | rfl) ?_
    refine wp_aload_n (pc' := 24) rfl rfl rfl (by omega) ?_
    refine wp_getI (ci := 7) (k0 := 1) (pc' := 27) rfl rfl (by decide) (by first | assumption | rfl) ?_
    refine wp_icmp_ge (pc' := 30) (pt := 74) rfl rfl rfl (fun q_1 => ?_) (fun q_1 => ?_)
    · skip
      rw [ha, show m = (w s 1 / 2).toNat by omega]
      exact K _
    · skip
      exfalso; omega
  | succ k ih =>
    intro m a p hp hmk ha
    obtain ⟨hs7, hpn, hsp, hs0, hp0, hne, hnn⟩ := id hst
    have hln := hl.2.1
    subst hp
    have ha01 := fitN01 (gKnd (w 3 0) (w 5 i0) y) (w pa) m
    rw [← ha] at ha01
    refine wp_iload (pc' := 21) rfl rfl rfl ?_
    refine wp_iconst (a := 1) (pc' := 22) rfl rfl rfl ?_
    refine wp_iadd (pc' := 23) rfl rfl (by first | exact w32_id (by omega) (by omega) | rfl) ?_
    refine wp_aload_n (pc' := 24) rfl rfl rfl (by omega) ?_
    refine wp_getI (ci := 7) (k0 := 1) (pc' := 27) rfl rfl (by decide) (by first | assumption | rfl) ?_
    refine wp_icmp_ge (pc' := 30) (pt := 74) rfl rfl rfl (fun q_1 => ?_) (fun q_1 => ?_)
    · skip
      exfalso; omega
    · skip
      refine wp_iload (pc' := 32) rfl rfl rfl ?_
      refine wp_if_eq (pc' := 35) (pt := 65) rfl rfl rfl (fun q_2 => ?_) (fun q_2 => ?_)
      · skip
        refine wp_iconst (a := 0) (pc' := 66) rfl rfl rfl ?_
        refine wp_istore (pc' := 68) rfl rfl (Nat.le_of_ble_eq_true rfl) rfl ?_
        dsimp only [lset, lset2, List.set, List.getElem?_cons_zero, List.getElem?_cons_succ]
        refine wp_iinc (pc' := 71) rfl rfl rfl (inc_id (by omega) (by omega)) rfl ?_
        dsimp only [lset, lset2, List.set, List.getElem?_cons_zero, List.getElem?_cons_succ]
        refine wp_goto (pc' := 19) rfl rfl ?_
        refine ih (m + 1) _ _ (by omega) (by omega) ?_
        rw [fitN, ← ha]
        unfold gKnd
        try dsimp only
        first
        | (rw [if_pos ⟨by omega, by omega⟩])
        | (rw [if_neg (fun z => by have z1 := z.1; have z2 := z.2; omega)])
      · skip
        refine wp_aload_n (pc' := 36) rfl rfl rfl (by decide) ?_
        refine wp_iload (pc' := 38) rfl rfl rfl ?_
        refine wp_iload_n (pc' := 39) rfl rfl rfl ?_
        refine wp_aload_n (pc' := 40) rfl rfl rfl (by omega) ?_
        refine wp_getR (r' := pa) (ci := 7) (k0 := 0) (pc' := 43) rfl rfl (by decide) (by first | assumption | rfl) (hsp) ?_
        refine wp_iload (pc' := 45) rfl rfl rfl ?_
        refine wp_iaload (pc' := 46) rfl rfl (by first | assumption | rfl) (by omega) ?_
        refine wp_call (pc' := 49) rfl rfl rfl rfl rfl ⟨Nat.le_of_ble_eq_true rfl, Nat.le_of_ble_eq_true rfl, Nat.le_of_ble_eq_true rfl, Nat.le_of_ble_eq_true rfl, Nat.le_of_ble_eq_true rfl⟩ rfl (c_Land_gainsAs hl.1 (by omega) hT (hw m (by omega) (by omega)) (hl.2.2 i0 hi.1 hi.2).2.1) ?_
        intro v1 w9 hq1
        rw [hq1.1, hq1.2]
        clear hq1 v1 w9
        dsimp only [Option.toList, List.cons_append, List.nil_append, List.append_nil]
        refine wp_aload_n (pc' := 50) rfl rfl rfl (by omega) ?_
        refine wp_getR (r' := pa) (ci := 7) (k0 := 0) (pc' := 53) rfl rfl (by decide) (by first | assumption | rfl) (hsp) ?_
        refine wp_iload (pc' := 55) rfl rfl rfl ?_
        refine wp_iconst (a := 1) (pc' := 56) rfl rfl rfl ?_
        refine wp_iadd (pc' := 57) rfl rfl (by first | exact w32_id (by omega) (by omega) | rfl) ?_
        refine wp_iaload (pc' := 58) rfl rfl (by first | assumption | rfl) (by omega) ?_
        refine wp_icmp_ne (pc' := 61) (pt := 65) rfl rfl rfl (fun q_3 => ?_) (fun q_3 => ?_)
        · skip
          refine wp_iconst (a := 0) (pc' := 66) rfl rfl rfl ?_
          refine wp_istore (pc' := 68) rfl rfl (Nat.le_of_ble_eq_true rfl) rfl ?_
          dsimp only [lset, lset2, List.set, List.getElem?_cons_zero, List.getElem?_cons_succ]
          refine wp_iinc (pc' := 71) rfl rfl rfl (inc_id (by omega) (by omega)) rfl ?_
          dsimp only [lset, lset2, List.set, List.getElem?_cons_zero, List.getElem?_cons_succ]
          refine wp_goto (pc' := 19) rfl rfl ?_
          refine ih (m + 1) _ _ (by omega) (by omega) ?_
          rw [fitN, ← ha]
          unfold gKnd
          try dsimp only
          first
          | (rw [if_pos ⟨by omega, by omega⟩])
          | (rw [if_neg (fun z => by have z1 := z.1; have z2 := z.2; omega)])
        · skip
          refine wp_iconst (a := 1) (pc' := 62) rfl rfl rfl ?_
          refine wp_goto (pc' := 66) rfl rfl ?_
          refine wp_istore (pc' := 68) rfl rfl (Nat.le_of_ble_eq_true rfl) rfl ?_
          dsimp only [lset, lset2, List.set, List.getElem?_cons_zero, List.getElem?_cons_succ]
          refine wp_iinc (pc' := 71) rfl rfl rfl (inc_id (by omega) (by omega)) rfl ?_
          dsimp only [lset, lset2, List.set, List.getElem?_cons_zero, List.getElem?_cons_succ]
          refine wp_goto (pc' := 19) rfl rfl ?_
          refine ih (m + 1) _ _ (by omega) (by omega) ?_
          rw [fitN, ← ha]
          unfold gKnd
          try dsimp only
          first
          | (rw [if_pos ⟨by omega, by omega⟩])
          | (rw [if_neg (fun z => by have z1 := z.1; have z2 := z.2; omega)])
set_option maxRecDepth 20000 in
set_option maxHeartbeats 4000000 in
theorem l_fitKinds {w : Hp} {d : Nat} {i0 : Int} {s pa : Int} (hT : Stc w) (hst : StripAt w s pa 40) (hz : 0 ≤ w s 1 ∧ w s 1 ≤ 40) (he : w s 1 % 2 = 0) (hl : LnOK w) (hw : ∀ q : Int, 0 ≤ q → q < w s 1 / 2 → 0 ≤ w pa (2 * q) ∧ w pa (2 * q) < w 3 0 * w 3 1) (hi : 0 ≤ i0 ∧ i0 < w 3 2) : ∀ (k m : Nat) (z y : Int) (x5 x6 : Option PV), y = m → m + k = ((6 : Int)).toNat → z = orN (fun y => fitN (gKnd (w 3 0) (w 5 i0) y) (w pa) (w s 1 / 2).toNat) m → WP SH (d + 2) 16 6 [some (vR 45), some (vR 3), some (vI i0), some (vR s), some (vI z), some (vI y), x5, x6] [] w (fun v w' => v = some (vI (orN (fun y => fitN (gKnd (w 3 0) (w 5 i0) y) (w pa) (w s 1 / 2).toNat) ((6 : Int)).toNat)) ∧ w' = w) := by
  intro k
  induction k with
  | zero =>
    intro m z y x5 x6 hy hmk hs
    obtain ⟨hs7, hpn, hsp, hs0, hp0, hne, hnn⟩ := id hst
    have hln := hl.2.1
    refine wp_iload (pc' := 8) rfl rfl rfl ?_
    refine wp_bipush (a := 6) (pc' := 10) rfl rfl rfl ?_
    refine wp_icmp_ge (pc' := 13) (pt := 98) rfl rfl rfl (fun q_1 => ?_) (fun q_1 => ?_)
    · skip
      refine wp_iload (pc' := 100) rfl rfl rfl ?_
      refine wp_ret rfl rfl rfl ?_
      obtain rfl : m = ((6 : Int)).toNat := by omega
      exact ⟨by rw [hs], rfl⟩
    · skip
      exfalso; omega
  | succ k ih =>
    intro m z y x5 x6 hy hmk hs
    obtain ⟨hs7, hpn, hsp, hs0, hp0, hne, hnn⟩ := id hst
    have hln := hl.2.1
    refine wp_iload (pc' := 8) rfl rfl rfl ?_
    refine wp_bipush (a := 6) (pc' := 10) rfl rfl rfl ?_
    refine wp_icmp_ge (pc' := 13) (pt := 98) rfl rfl rfl (fun q_1 => ?_) (fun q_1 => ?_)
    · skip
      exfalso; omega
    · skip
      refine wp_iconst (a := 1) (pc' := 14) rfl rfl rfl ?_
      refine wp_istore (pc' := 16) rfl rfl (Nat.le_of_ble_eq_true rfl) rfl ?_
      dsimp only [lset, lset2, List.set, List.getElem?_cons_zero, List.getElem?_cons_succ]
      refine wp_iconst (a := 0) (pc' := 17) rfl rfl rfl ?_
      refine wp_istore (pc' := 19) rfl rfl (Nat.le_of_ble_eq_true rfl) rfl ?_
      dsimp only [lset, lset2, List.set, List.getElem?_cons_zero, List.getElem?_cons_succ]
      have hf01 := fitN01 (gKnd (w 3 0) (w 5 i0) y) (w pa) (w s 1 / 2).toNat
      refine l_fitK hT hst hz he hl hw hi (fun p => ?_) (w s 1 / 2).toNat 0 _ _ rfl (by omega) rfl
      refine wp_iload (pc' := 76) rfl rfl rfl ?_
      refine wp_iload (pc' := 78) rfl rfl rfl ?_
      refine wp_if_eq (pc' := 81) (pt := 88) rfl rfl rfl (fun q_22 => ?_) (fun q_22 => ?_)
      · skip
        refine wp_iconst (a := 0) (pc' := 89) rfl rfl rfl ?_
        refine wp_ior (pc' := 90) rfl rfl rfl ?_
        refine wp_istore (pc' := 92) rfl rfl (Nat.le_of_ble_eq_true rfl) rfl ?_
        dsimp only [lset, lset2, List.set, List.getElem?_cons_zero, List.getElem?_cons_succ]
        refine wp_iinc (pc' := 95) rfl rfl rfl (inc_id (by omega) (by omega)) rfl ?_
        dsimp only [lset, lset2, List.set, List.getElem?_cons_zero, List.getElem?_cons_succ]
        refine wp_goto (pc' := 6) rfl rfl ?_
        exact ih (m + 1) _ _ _ _ (by omega) (by omega) (by rw [orN, ← hs]; subst hy; (try dsimp only); split <;> first | rfl | (exfalso; omega))
      · skip
        refine wp_iconst (a := 1) (pc' := 82) rfl rfl rfl ?_
        refine wp_iload (pc' := 84) rfl rfl rfl ?_
        refine wp_ishl (pc' := 85) rfl rfl rfl ?_
        refine wp_goto (pc' := 89) rfl rfl ?_
        refine wp_ior (pc' := 90) rfl rfl rfl ?_
        refine wp_istore (pc' := 92) rfl rfl (Nat.le_of_ble_eq_true rfl) rfl ?_
        dsimp only [lset, lset2, List.set, List.getElem?_cons_zero, List.getElem?_cons_succ]
        refine wp_iinc (pc' := 95) rfl rfl rfl (inc_id (by omega) (by omega)) rfl ?_
        dsimp only [lset, lset2, List.set, List.getElem?_cons_zero, List.getElem?_cons_succ]
        refine wp_goto (pc' := 6) rfl rfl ?_
        exact ih (m + 1) _ _ _ _ (by omega) (by omega) (by rw [orN, ← hs]; subst hy; (try dsimp only); split <;> first | rfl | (exfalso; omega))
set_option maxRecDepth 20000 in
set_option maxHeartbeats 4000000 in
theorem c_Clues_fittingKinds {w : Hp} {d : Nat} {i0 : Int} {s pa : Int} (hT : Stc w) (hst : StripAt w s pa 40) (hz : 0 ≤ w s 1 ∧ w s 1 ≤ 40) (he : w s 1 % 2 = 0) (hl : LnOK w) (hw : ∀ q : Int, 0 ≤ q → q < w s 1 / 2 → 0 ≤ w pa (2 * q) ∧ w pa (2 * q) < w 3 0 * w 3 1) (hi : 0 ≤ i0 ∧ i0 < w 3 2) : WP SH (d + 2) 16 0 [some (vR 45), some (vR 3), some (vI i0), some (vR s), none, none, none, none] [] w (fun v w' => v = some (vI (orN (fun y => fitN (gKnd (w 3 0) (w 5 i0) y) (w pa) (w s 1 / 2).toNat) (6 : Int).toNat)) ∧ w' = w) := by
  obtain ⟨hs7, hpn, hsp, hs0, hp0, hne, hnn⟩ := id hst
  have hln := hl.2.1
  refine wp_iconst (a := 0) (pc' := 1) rfl rfl rfl ?_
  refine wp_istore (pc' := 3) rfl rfl (Nat.le_of_ble_eq_true rfl) rfl ?_
  dsimp only [lset, lset2, List.set, List.getElem?_cons_zero, List.getElem?_cons_succ]
  refine wp_iconst (a := 0) (pc' := 4) rfl rfl rfl ?_
  refine wp_istore (pc' := 6) rfl rfl (Nat.le_of_ble_eq_true rfl) rfl ?_
  dsimp only [lset, lset2, List.set, List.getElem?_cons_zero, List.getElem?_cons_succ]
  exact l_fitKinds hT hst hz he hl hw hi (6 : Int).toNat 0 _ _ _ _ rfl (by decide) rfl
set_option maxRecDepth 20000 in
set_option maxHeartbeats 4000000 in
theorem l_MfitC {w : Hp} {d : Nat} {acc y : Int} {r : Int} (hT : Stc w) (hr : 0 ≤ r ∧ r < 6) (hz : 0 ≤ w 102 r ∧ w 102 r ≤ 40) (he : w 102 r % 2 = 0) (hl : MdOK w) (hw : ∀ q : Int, 0 ≤ q → q < w 102 r / 2 → 0 ≤ w 103 (40 * r + 2 * q) ∧ w 103 (40 * r + 2 * q) < w 100 10) (hy : Cel (w 100 11) (w 100 12) y) {Q : Option PV → Hp → Prop} (K : ∀ p : Int, WP SH (d + 4) 208 76 [some (vR 100), some (vI r), some (vI acc), some (vI y), some (vI (fitN (gCel (w 100 11) (w 107) (fun i => w 109 (3 + i)) y) (fun j => w 103 (40 * r + j)) (w 102 r / 2).toNat)), some (vI p)] [] w Q) : ∀ (k m : Nat) (a p : Int), p = 2 * (m : Int) → 2 * ((m : Int) + k) = w 102 r → a = fitN (gCel (w 100 11) (w 107) (fun i => w 109 (3 + i)) y) (fun j => w 103 (40 * r + j)) m → WP SH (d + 4) 208 23 [some (vR 100), some (vI r), some (vI acc), some (vI y), some (vI (a)), some (vI p)] [] w Q := by
  intro k
  induction k with
  | zero =>
    intro m a p hp hmk ha
    have hln := hl.2.1
    subst hp
    have ha01 := fitN01 (gCel (w 100 11) (w 107) (fun i => w 109 (3 + i)) y) (fun j => w 103 (40 * r + j)) m
    rw [← ha] at ha01
    refine wp_iload (pc' := 25) rfl rfl rfl ?_
    refine wp_aload_n (pc' := 26) rfl rfl rfl (by decide) ?_
    refine wp_getR (r' := 102) (ci := 10) (k0 := 5) (pc' := 29) rfl rfl (by decide) (by first | assumption | rfl) (hT.get 100 rfl) ?_
    refine wp_iload_n (pc' := 30) rfl rfl rfl ?_
    refine wp_iaload (pc' := 31) rfl rfl (by first | assumption | rfl) (by omega) ?_
    refine wp_icmp_ge (pc' := 34) (pt := 76) rfl rfl rfl (fun q_1 => ?_) (fun q_1 => ?_)
    · skip
      rw [ha, show m = (w 102 r / 2).toNat by omega]
      exact K _
    · skip
      exfalso; omega
  | succ k ih =>
    intro m a p hp hmk ha
    have hln := hl.2.1
    subst hp
    have ha01 := fitN01 (gCel (w 100 11) (w 107) (fun i => w 109 (3 + i)) y) (fun j => w 103 (40 * r + j)) m
    rw [← ha] at ha01
    refine wp_iload (pc' := 25) rfl rfl rfl ?_
    refine wp_aload_n (pc' := 26) rfl rfl rfl (by decide) ?_
    refine wp_getR (r' := 102) (ci := 10) (k0 := 5) (pc' := 29) rfl rfl (by decide) (by first | assumption | rfl) (hT.get 100 rfl) ?_
    refine wp_iload_n (pc' := 30) rfl rfl rfl ?_
    refine wp_iaload (pc' := 31) rfl rfl (by first | assumption | rfl) (by omega) ?_
    refine wp_icmp_ge (pc' := 34) (pt := 76) rfl rfl rfl (fun q_1 => ?_) (fun q_1 => ?_)
    · skip
      exfalso; omega
    · skip
      refine wp_iload (pc' := 36) rfl rfl rfl ?_
      refine wp_if_eq (pc' := 39) (pt := 67) rfl rfl rfl (fun q_2 => ?_) (fun q_2 => ?_)
      · skip
        refine wp_iconst (a := 0) (pc' := 68) rfl rfl rfl ?_
        refine wp_istore (pc' := 70) rfl rfl (Nat.le_of_ble_eq_true rfl) rfl ?_
        dsimp only [lset, lset2, List.set, List.getElem?_cons_zero, List.getElem?_cons_succ]
        refine wp_iinc (pc' := 73) rfl rfl rfl (inc_id (by omega) (by omega)) rfl ?_
        dsimp only [lset, lset2, List.set, List.getElem?_cons_zero, List.getElem?_cons_succ]
        refine wp_goto (pc' := 23) rfl rfl ?_
        refine ih (m + 1) _ _ (by omega) (by omega) ?_
        rw [fitN, ← ha]
        unfold gCel
        try dsimp only
        first
        | (rw [if_pos ⟨by omega, by omega⟩])
        | (rw [if_neg (fun z => by have z1 := z.1; have z2 := z.2; omega)])
      · skip
        refine wp_aload_n (pc' := 40) rfl rfl rfl (by decide) ?_
        refine wp_aload_n (pc' := 41) rfl rfl rfl (by decide) ?_
        refine wp_iload_n (pc' := 42) rfl rfl rfl ?_
        refine wp_iload (pc' := 44) rfl rfl rfl ?_
        refine wp_call (pc' := 47) rfl rfl rfl rfl rfl ⟨Nat.le_of_ble_eq_true rfl, Nat.le_of_ble_eq_true rfl, Nat.le_of_ble_eq_true rfl, Nat.le_of_ble_eq_true rfl, Nat.le_of_ble_eq_true rfl⟩ rfl (c_Mod_rowAt hT hr (by omega)) ?_
        intro v1 w9 hq1
        rw [hq1.1, hq1.2]
        clear hq1 v1 w9
        dsimp only [Option.toList, List.cons_append, List.nil_append, List.append_nil]
        refine wp_iload_n (pc' := 48) rfl rfl rfl ?_
        refine wp_call (pc' := 51) rfl rfl rfl rfl rfl ⟨Nat.le_of_ble_eq_true rfl, Nat.le_of_ble_eq_true rfl, Nat.le_of_ble_eq_true rfl, Nat.le_of_ble_eq_true rfl, Nat.le_of_ble_eq_true rfl⟩ rfl (c_Mod_gainOn hl.1 (by have := hw m (by omega) (by omega); omega) hT hy (hl.2.2 _ (hw m (by omega) (by omega)).1 (hw m (by omega) (by omega)).2).2.1) ?_
        intro v1 w9 hq1
        rw [hq1.1, hq1.2]
        clear hq1 v1 w9
        dsimp only [Option.toList, List.cons_append, List.nil_append, List.append_nil]
        refine wp_aload_n (pc' := 52) rfl rfl rfl (by decide) ?_
        refine wp_iload_n (pc' := 53) rfl rfl rfl ?_
        refine wp_iload (pc' := 55) rfl rfl rfl ?_
        refine wp_iconst (a := 1) (pc' := 56) rfl rfl rfl ?_
        refine wp_iadd (pc' := 57) rfl rfl (by first | exact w32_id (by omega) (by omega) | rfl) ?_
        refine wp_call (pc' := 60) rfl rfl rfl rfl rfl ⟨Nat.le_of_ble_eq_true rfl, Nat.le_of_ble_eq_true rfl, Nat.le_of_ble_eq_true rfl, Nat.le_of_ble_eq_true rfl, Nat.le_of_ble_eq_true rfl⟩ rfl (c_Mod_rowAt hT hr (by omega)) ?_
        intro v1 w9 hq1
        rw [hq1.1, hq1.2]
        clear hq1 v1 w9
        dsimp only [Option.toList, List.cons_append, List.nil_append, List.append_nil]
        refine wp_icmp_ne (pc' := 63) (pt := 67) rfl rfl rfl (fun q_3 => ?_) (fun q_3 => ?_)
        · skip
          refine wp_iconst (a := 0) (pc' := 68) rfl rfl rfl ?_
          refine wp_istore (pc' := 70) rfl rfl (Nat.le_of_ble_eq_true rfl) rfl ?_
          dsimp only [lset, lset2, List.set, List.getElem?_cons_zero, List.getElem?_cons_succ]
          refine wp_iinc (pc' := 73) rfl rfl rfl (inc_id (by omega) (by omega)) rfl ?_
          dsimp only [lset, lset2, List.set, List.getElem?_cons_zero, List.getElem?_cons_succ]
          refine wp_goto (pc' := 23) rfl rfl ?_
          refine ih (m + 1) _ _ (by omega) (by omega) ?_
          rw [fitN, ← ha]
          unfold gCel
          try dsimp only
          first
          | (rw [if_pos ⟨by omega, by omega⟩])
          | (rw [if_neg (fun z => by have z1 := z.1; have z2 := z.2; omega)])
        · skip
          refine wp_iconst (a := 1) (pc' := 64) rfl rfl rfl ?_
          refine wp_goto (pc' := 68) rfl rfl ?_
          refine wp_istore (pc' := 70) rfl rfl (Nat.le_of_ble_eq_true rfl) rfl ?_
          dsimp only [lset, lset2, List.set, List.getElem?_cons_zero, List.getElem?_cons_succ]
          refine wp_iinc (pc' := 73) rfl rfl rfl (inc_id (by omega) (by omega)) rfl ?_
          dsimp only [lset, lset2, List.set, List.getElem?_cons_zero, List.getElem?_cons_succ]
          refine wp_goto (pc' := 23) rfl rfl ?_
          refine ih (m + 1) _ _ (by omega) (by omega) ?_
          rw [fitN, ← ha]
          unfold gCel
          try dsimp only
          first
          | (rw [if_pos ⟨by omega, by omega⟩])
          | (rw [if_neg (fun z => by have z1 := z.1; have z2 := z.2; omega)])
set_option maxRecDepth 20000 in
set_option maxHeartbeats 4000000 in
theorem l_MfitCells {w : Hp} {d : Nat} {r : Int} (hT : Stc w) (hr : 0 ≤ r ∧ r < 6) (hz : 0 ≤ w 102 r ∧ w 102 r ≤ 40) (he : w 102 r % 2 = 0) (hl : MdOK w) (hw : ∀ q : Int, 0 ≤ q → q < w 102 r / 2 → 0 ≤ w 103 (40 * r + 2 * q) ∧ w 103 (40 * r + 2 * q) < w 100 10) : ∀ (k m : Nat) (z y : Int) (x5 x6 : Option PV), y = m → m + k = (w 100 11 * w 100 12).toNat → z = orN (fun y => fitN (gCel (w 100 11) (w 107) (fun i => w 109 (3 + i)) y) (fun j => w 103 (40 * r + j)) (w 102 r / 2).toNat) m → WP SH (d + 4) 208 4 [some (vR 100), some (vI r), some (vI z), some (vI y), x5, x6] [] w (fun v w' => v = some (vI (orN (fun y => fitN (gCel (w 100 11) (w 107) (fun i => w 109 (3 + i)) y) (fun j => w 103 (40 * r + j)) (w 102 r / 2).toNat) (w 100 11 * w 100 12).toNat)) ∧ w' = w) := by
  intro k
  induction k with
  | zero =>
    intro m z y x5 x6 hy hmk hs
    have hml := hl.1.mul
    refine wp_iload_n (pc' := 5) rfl rfl rfl ?_
    refine wp_aload_n (pc' := 6) rfl rfl rfl (by decide) ?_
    refine wp_getI (ci := 10) (k0 := 11) (pc' := 9) rfl rfl (by decide) (by first | assumption | rfl) ?_
    refine wp_aload_n (pc' := 10) rfl rfl rfl (by decide) ?_
    refine wp_getI (ci := 10) (k0 := 12) (pc' := 13) rfl rfl (by decide) (by first | assumption | rfl) ?_
    refine wp_imul (pc' := 14) rfl rfl (by first | exact w32_id (by omega) (by omega) | rfl) ?_
    refine wp_icmp_ge (pc' := 17) (pt := 97) rfl rfl rfl (fun q_1 => ?_) (fun q_1 => ?_)
    · skip
      refine wp_iload_n (pc' := 98) rfl rfl rfl ?_
      refine wp_ret rfl rfl rfl ?_
      obtain rfl : m = (w 100 11 * w 100 12).toNat := by omega
      exact ⟨by rw [hs], rfl⟩
    · skip
      exfalso; omega
  | succ k ih =>
    intro m z y x5 x6 hy hmk hs
    have hml := hl.1.mul
    refine wp_iload_n (pc' := 5) rfl rfl rfl ?_
    refine wp_aload_n (pc' := 6) rfl rfl rfl (by decide) ?_
    refine wp_getI (ci := 10) (k0 := 11) (pc' := 9) rfl rfl (by decide) (by first | assumption | rfl) ?_
    refine wp_aload_n (pc' := 10) rfl rfl rfl (by decide) ?_
    refine wp_getI (ci := 10) (k0 := 12) (pc' := 13) rfl rfl (by decide) (by first | assumption | rfl) ?_
    refine wp_imul (pc' := 14) rfl rfl (by first | exact w32_id (by omega) (by omega) | rfl) ?_
    refine wp_icmp_ge (pc' := 17) (pt := 97) rfl rfl rfl (fun q_1 => ?_) (fun q_1 => ?_)
    · skip
      exfalso; omega
    · skip
      refine wp_iconst (a := 1) (pc' := 18) rfl rfl rfl ?_
      refine wp_istore (pc' := 20) rfl rfl (Nat.le_of_ble_eq_true rfl) rfl ?_
      dsimp only [lset, lset2, List.set, List.getElem?_cons_zero, List.getElem?_cons_succ]
      refine wp_iconst (a := 0) (pc' := 21) rfl rfl rfl ?_
      refine wp_istore (pc' := 23) rfl rfl (Nat.le_of_ble_eq_true rfl) rfl ?_
      dsimp only [lset, lset2, List.set, List.getElem?_cons_zero, List.getElem?_cons_succ]
      have hf01 := fitN01 (gCel (w 100 11) (w 107) (fun i => w 109 (3 + i)) y) (fun j => w 103 (40 * r + j)) (w 102 r / 2).toNat
      have hyc : Cel (w 100 11) (w 100 12) y := ⟨by omega, by omega⟩
      refine l_MfitC hT hr hz he hl hw hyc (fun p => ?_) (w 102 r / 2).toNat 0 _ _ rfl (by omega) rfl
      refine wp_iload_n (pc' := 77) rfl rfl rfl ?_
      refine wp_iload (pc' := 79) rfl rfl rfl ?_
      refine wp_if_eq (pc' := 82) (pt := 88) rfl rfl rfl (fun q_22 => ?_) (fun q_22 => ?_)
      · skip
        refine wp_iconst (a := 0) (pc' := 89) rfl rfl rfl ?_
        refine wp_ior (pc' := 90) rfl rfl rfl ?_
        refine wp_istore_n (pc' := 91) rfl rfl (Nat.le_of_ble_eq_true rfl) rfl ?_
        dsimp only [lset, lset2, List.set, List.getElem?_cons_zero, List.getElem?_cons_succ]
        refine wp_iinc (pc' := 94) rfl rfl rfl (inc_id (by omega) (by omega)) rfl ?_
        dsimp only [lset, lset2, List.set, List.getElem?_cons_zero, List.getElem?_cons_succ]
        refine wp_goto (pc' := 4) rfl rfl ?_
        exact ih (m + 1) _ _ _ _ (by omega) (by omega) (by rw [orN, ← hs]; subst hy; (try dsimp only); split <;> first | rfl | (exfalso; omega))
      · skip
        refine wp_iconst (a := 1) (pc' := 83) rfl rfl rfl ?_
        refine wp_iload_n (pc' := 84) rfl rfl rfl ?_
        refine wp_ishl (pc' := 85) rfl rfl rfl ?_
        refine wp_goto (pc' := 89) rfl rfl ?_
        refine wp_ior (pc' := 90) rfl rfl rfl ?_
        refine wp_istore_n (pc' := 91) rfl rfl (Nat.le_of_ble_eq_true rfl) rfl ?_
        dsimp only [lset, lset2, List.set, List.getElem?_cons_zero, List.getElem?_cons_succ]
        refine wp_iinc (pc' := 94) rfl rfl rfl (inc_id (by omega) (by omega)) rfl ?_
        dsimp only [lset, lset2, List.set, List.getElem?_cons_zero, List.getElem?_cons_succ]
        refine wp_goto (pc' := 4) rfl rfl ?_
        exact ih (m + 1) _ _ _ _ (by omega) (by omega) (by rw [orN, ← hs]; subst hy; (try dsimp only); split <;> first | rfl | (exfalso; omega))
set_option maxRecDepth 20000 in
set_option maxHeartbeats 4000000 in
theorem c_Mod_fitSet {w : Hp} {d : Nat} {r : Int} (hT : Stc w) (hr : 0 ≤ r ∧ r < 6) (hz : 0 ≤ w 102 r ∧ w 102 r ≤ 40) (he : w 102 r % 2 = 0) (hl : MdOK w) (hw : ∀ q : Int, 0 ≤ q → q < w 102 r / 2 → 0 ≤ w 103 (40 * r + 2 * q) ∧ w 103 (40 * r + 2 * q) < w 100 10) : WP SH (d + 4) 208 0 [some (vR 100), some (vI r), none, none, none, none] [] w (fun v w' => v = some (vI (orN (fun y => fitN (gCel (w 100 11) (w 107) (fun i => w 109 (3 + i)) y) (fun j => w 103 (40 * r + j)) (w 102 r / 2).toNat) (w 100 11 * w 100 12).toNat)) ∧ w' = w) := by
  refine wp_iconst (a := 0) (pc' := 1) rfl rfl rfl ?_
  refine wp_istore_n (pc' := 2) rfl rfl (Nat.le_of_ble_eq_true rfl) rfl ?_
  dsimp only [lset, lset2, List.set, List.getElem?_cons_zero, List.getElem?_cons_succ]
  refine wp_iconst (a := 0) (pc' := 3) rfl rfl rfl ?_
  refine wp_istore_n (pc' := 4) rfl rfl (Nat.le_of_ble_eq_true rfl) rfl ?_
  dsimp only [lset, lset2, List.set, List.getElem?_cons_zero, List.getElem?_cons_succ]
  exact l_MfitCells hT hr hz he hl hw (w 100 11 * w 100 12).toNat 0 _ _ _ _ rfl (by omega) rfl
set_option maxRecDepth 20000 in
set_option maxHeartbeats 4000000 in
theorem l_MfitK {w : Hp} {d : Nat} {acc y i0 : Int} {r : Int} (hT : Stc w) (hr : 0 ≤ r ∧ r < 6) (hz : 0 ≤ w 102 r ∧ w 102 r ≤ 40) (he : w 102 r % 2 = 0) (hl : MdOK w) (hw : ∀ q : Int, 0 ≤ q → q < w 102 r / 2 → 0 ≤ w 103 (40 * r + 2 * q) ∧ w 103 (40 * r + 2 * q) < w 100 11 * w 100 12) (hi : 0 ≤ i0 ∧ i0 < w 100 10) {Q : Option PV → Hp → Prop} (K : ∀ p : Int, WP SH (d + 3) 212 79 [some (vR 100), some (vI i0), some (vI r), some (vI acc), some (vI y), some (vI (fitN (gKnd (w 100 11) (w 109 (3 + i0)) y) (fun j => w 103 (40 * r + j)) (w 102 r / 2).toNat)), some (vI p)] [] w Q) : ∀ (k m : Nat) (a p : Int), p = 2 * (m : Int) → 2 * ((m : Int) + k) = w 102 r → a = fitN (gKnd (w 100 11) (w 109 (3 + i0)) y) (fun j => w 103 (40 * r + j)) m → WP SH (d + 3) 212 17 [some (vR 100), some (vI i0), some (vI r), some (vI acc), some (vI y), some (vI (a)), some (vI p)] [] w Q := by
  intro k
  induction k with
  | zero =>
    intro m a p hp hmk ha
    have hln := hl.2.1
    subst hp
    have ha01 := fitN01 (gKnd (w 100 11) (w 109 (3 + i0)) y) (fun j => w 103 (40 * r + j)) m
    rw [← ha] at ha01
    refine wp_iload (pc' := 19) rfl rfl rfl ?_
    refine wp_aload_n (pc' := 20) rfl rfl rfl (by decide) ?_
    refine wp_getR (r' := 102) (ci := 10) (k0 := 5) (pc' := 23) rfl rfl (by decide) (by first | assumption | rfl) (hT.get 100 rfl) ?_
    refine wp_iload_n (pc' := 24) rfl rfl rfl ?_
    refine wp_iaload (pc' := 25) rfl rfl (by first | assumption | rfl) (by omega) ?_
    refine wp_icmp_ge (pc' := 28) (pt := 79) rfl rfl rfl (fun q_1 => ?_) (fun q_1 => ?_)
    · skip
      rw [ha, show m = (w 102 r / 2).toNat by omega]
      exact K _
    · skip
      exfalso; omega
  | succ k ih =>
    intro m a p hp hmk ha
    have hln := hl.2.1
    subst hp
    have ha01 := fitN01 (gKnd (w 100 11) (w 109 (3 + i0)) y) (fun j => w 103 (40 * r + j)) m
    rw [← ha] at ha01
    refine wp_iload (pc' := 19) rfl rfl rfl ?_
    refine wp_aload_n (pc' := 20) rfl rfl rfl (by decide) ?_
    refine wp_getR (r' := 102) (ci := 10) (k0 := 5) (pc' := 23) rfl rfl (by decide) (by first | assumption | rfl) (hT.get 100 rfl) ?_
    refine wp_iload_n (pc' := 24) rfl rfl rfl ?_
    refine wp_iaload (pc' := 25) rfl rfl (by first | assumption | rfl) (by omega) ?_
    refine wp_icmp_ge (pc' := 28) (pt := 79) rfl rfl rfl (fun q_1 => ?_) (fun q_1 => ?_)
    · skip
      exfalso; omega
    · skip
      refine wp_iload (pc' := 30) rfl rfl rfl ?_
      refine wp_if_eq (pc' := 33) (pt := 70) rfl rfl rfl (fun q_2 => ?_) (fun q_2 => ?_)
      · skip
        refine wp_iconst (a := 0) (pc' := 71) rfl rfl rfl ?_
        refine wp_istore (pc' := 73) rfl rfl (Nat.le_of_ble_eq_true rfl) rfl ?_
        dsimp only [lset, lset2, List.set, List.getElem?_cons_zero, List.getElem?_cons_succ]
        refine wp_iinc (pc' := 76) rfl rfl rfl (inc_id (by omega) (by omega)) rfl ?_
        dsimp only [lset, lset2, List.set, List.getElem?_cons_zero, List.getElem?_cons_succ]
        refine wp_goto (pc' := 17) rfl rfl ?_
        refine ih (m + 1) _ _ (by omega) (by omega) ?_
        rw [fitN, ← ha]
        unfold gKnd
        try dsimp only
        first
        | (rw [if_pos ⟨by omega, by omega⟩])
        | (rw [if_neg (fun z => by have z1 := z.1; have z2 := z.2; omega)])
      · skip
        refine wp_aload_n (pc' := 34) rfl rfl rfl (by decide) ?_
        refine wp_iload (pc' := 36) rfl rfl rfl ?_
        refine wp_aload_n (pc' := 37) rfl rfl rfl (by decide) ?_
        refine wp_getR (r' := 109) (ci := 10) (k0 := 15) (pc' := 40) rfl rfl (by decide) (by first | assumption | rfl) (hT.get 107 rfl) ?_
        refine wp_iconst (a := 3) (pc' := 41) rfl rfl rfl ?_
        refine wp_iload_n (pc' := 42) rfl rfl rfl ?_
        refine wp_iadd (pc' := 43) rfl rfl (by first | exact w32_id (by omega) (by omega) | rfl) ?_
        refine wp_iaload (pc' := 44) rfl rfl (by first | assumption | rfl) (by omega) ?_
        refine wp_aload_n (pc' := 45) rfl rfl rfl (by decide) ?_
        refine wp_iload_n (pc' := 46) rfl rfl rfl ?_
        refine wp_iload (pc' := 48) rfl rfl rfl ?_
        refine wp_call (pc' := 51) rfl rfl rfl rfl rfl ⟨Nat.le_of_ble_eq_true rfl, Nat.le_of_ble_eq_true rfl, Nat.le_of_ble_eq_true rfl, Nat.le_of_ble_eq_true rfl, Nat.le_of_ble_eq_true rfl⟩ rfl (c_Mod_rowAt hT hr (by omega)) ?_
        intro v1 w9 hq1
        rw [hq1.1, hq1.2]
        clear hq1 v1 w9
        dsimp only [Option.toList, List.cons_append, List.nil_append, List.append_nil]
        refine wp_call (pc' := 54) rfl rfl rfl rfl rfl ⟨Nat.le_of_ble_eq_true rfl, Nat.le_of_ble_eq_true rfl, Nat.le_of_ble_eq_true rfl, Nat.le_of_ble_eq_true rfl, Nat.le_of_ble_eq_true rfl⟩ rfl (c_Mod_gainBy hl.1 (hw m (by omega) (by omega)) (hl.2.2 i0 hi.1 hi.2).2.1) ?_
        intro v1 w9 hq1
        rw [hq1.1, hq1.2]
        clear hq1 v1 w9
        dsimp only [Option.toList, List.cons_append, List.nil_append, List.append_nil]
        refine wp_aload_n (pc' := 55) rfl rfl rfl (by decide) ?_
        refine wp_iload_n (pc' := 56) rfl rfl rfl ?_
        refine wp_iload (pc' := 58) rfl rfl rfl ?_
        refine wp_iconst (a := 1) (pc' := 59) rfl rfl rfl ?_
        refine wp_iadd (pc' := 60) rfl rfl (by first | exact w32_id (by omega) (by omega) | rfl) ?_
        refine wp_call (pc' := 63) rfl rfl rfl rfl rfl ⟨Nat.le_of_ble_eq_true rfl, Nat.le_of_ble_eq_true rfl, Nat.le_of_ble_eq_true rfl, Nat.le_of_ble_eq_true rfl, Nat.le_of_ble_eq_true rfl⟩ rfl (c_Mod_rowAt hT hr (by omega)) ?_
        intro v1 w9 hq1
        rw [hq1.1, hq1.2]
        clear hq1 v1 w9
        dsimp only [Option.toList, List.cons_append, List.nil_append, List.append_nil]
        refine wp_icmp_ne (pc' := 66) (pt := 70) rfl rfl rfl (fun q_3 => ?_) (fun q_3 => ?_)
        · skip
          refine wp_iconst (a := 0) (pc' := 71) rfl rfl rfl ?_
          refine wp_istore (pc' := 73) rfl rfl (Nat.le_of_ble_eq_true rfl) rfl ?_
          dsimp only [lset, lset2, List.set, List.getElem?_cons_zero, List.getElem?_cons_succ]
          refine wp_iinc (pc' := 76) rfl rfl rfl (inc_id (by omega) (by omega)) rfl ?_
          dsimp only [lset, lset2, List.set, List.getElem?_cons_zero, List.getElem?_cons_succ]
          refine wp_goto (pc' := 17) rfl rfl ?_
          refine ih (m + 1) _ _ (by omega) (by omega) ?_
          rw [fitN, ← ha]
          unfold gKnd
          try dsimp only
          first
          | (rw [if_pos ⟨by omega, by omega⟩])
          | (rw [if_neg (fun z => by have z1 := z.1; have z2 := z.2; omega)])
        · skip
          refine wp_iconst (a := 1) (pc' := 67) rfl rfl rfl ?_
          refine wp_goto (pc' := 71) rfl rfl ?_
          refine wp_istore (pc' := 73) rfl rfl (Nat.le_of_ble_eq_true rfl) rfl ?_
          dsimp only [lset, lset2, List.set, List.getElem?_cons_zero, List.getElem?_cons_succ]
          refine wp_iinc (pc' := 76) rfl rfl rfl (inc_id (by omega) (by omega)) rfl ?_
          dsimp only [lset, lset2, List.set, List.getElem?_cons_zero, List.getElem?_cons_succ]
          refine wp_goto (pc' := 17) rfl rfl ?_
          refine ih (m + 1) _ _ (by omega) (by omega) ?_
          rw [fitN, ← ha]
          unfold gKnd
          try dsimp only
          first
          | (rw [if_pos ⟨by omega, by omega⟩])
          | (rw [if_neg (fun z => by have z1 := z.1; have z2 := z.2; omega)])
set_option maxRecDepth 20000 in
set_option maxHeartbeats 4000000 in
theorem l_MfitKinds {w : Hp} {d : Nat} {i0 : Int} {r : Int} (hT : Stc w) (hr : 0 ≤ r ∧ r < 6) (hz : 0 ≤ w 102 r ∧ w 102 r ≤ 40) (he : w 102 r % 2 = 0) (hl : MdOK w) (hw : ∀ q : Int, 0 ≤ q → q < w 102 r / 2 → 0 ≤ w 103 (40 * r + 2 * q) ∧ w 103 (40 * r + 2 * q) < w 100 11 * w 100 12) (hi : 0 ≤ i0 ∧ i0 < w 100 10) : ∀ (k m : Nat) (z y : Int) (x5 x6 : Option PV), y = m → m + k = ((6 : Int)).toNat → z = orN (fun y => fitN (gKnd (w 100 11) (w 109 (3 + i0)) y) (fun j => w 103 (40 * r + j)) (w 102 r / 2).toNat) m → WP SH (d + 3) 212 5 [some (vR 100), some (vI i0), some (vI r), some (vI z), some (vI y), x5, x6] [] w (fun v w' => v = some (vI (orN (fun y => fitN (gKnd (w 100 11) (w 109 (3 + i0)) y) (fun j => w 103 (40 * r + j)) (w 102 r / 2).toNat) ((6 : Int)).toNat)) ∧ w' = w) := by
  intro k
  induction k with
  | zero =>
    intro m z y x5 x6 hy hmk hs
    refine wp_iload (pc' := 7) rfl rfl rfl ?_
    refine wp_iconst (a := 5) (pc' := 8) rfl rfl rfl ?_
    refine wp_icmp_gt (pc' := 11) (pt := 101) rfl rfl rfl (fun q_1 => ?_) (fun q_1 => ?_)
    · skip
      refine wp_iload_n (pc' := 102) rfl rfl rfl ?_
      refine wp_ret rfl rfl rfl ?_
      obtain rfl : m = ((6 : Int)).toNat := by omega
      exact ⟨by rw [hs], rfl⟩
    · skip
      exfalso; omega
  | succ k ih =>
    intro m z y x5 x6 hy hmk hs
    refine wp_iload (pc' := 7) rfl rfl rfl ?_
    refine wp_iconst (a := 5) (pc' := 8) rfl rfl rfl ?_
    refine wp_icmp_gt (pc' := 11) (pt := 101) rfl rfl rfl (fun q_1 => ?_) (fun q_1 => ?_)
    · skip
      exfalso; omega
    · skip
      refine wp_iconst (a := 1) (pc' := 12) rfl rfl rfl ?_
      refine wp_istore (pc' := 14) rfl rfl (Nat.le_of_ble_eq_true rfl) rfl ?_
      dsimp only [lset, lset2, List.set, List.getElem?_cons_zero, List.getElem?_cons_succ]
      refine wp_iconst (a := 0) (pc' := 15) rfl rfl rfl ?_
      refine wp_istore (pc' := 17) rfl rfl (Nat.le_of_ble_eq_true rfl) rfl ?_
      dsimp only [lset, lset2, List.set, List.getElem?_cons_zero, List.getElem?_cons_succ]
      have hf01 := fitN01 (gKnd (w 100 11) (w 109 (3 + i0)) y) (fun j => w 103 (40 * r + j)) (w 102 r / 2).toNat
      refine l_MfitK hT hr hz he hl hw hi (fun p => ?_) (w 102 r / 2).toNat 0 _ _ rfl (by omega) rfl
      refine wp_iload_n (pc' := 80) rfl rfl rfl ?_
      refine wp_iload (pc' := 82) rfl rfl rfl ?_
      refine wp_if_eq (pc' := 85) (pt := 92) rfl rfl rfl (fun q_22 => ?_) (fun q_22 => ?_)
      · skip
        refine wp_iconst (a := 0) (pc' := 93) rfl rfl rfl ?_
        refine wp_ior (pc' := 94) rfl rfl rfl ?_
        refine wp_istore_n (pc' := 95) rfl rfl (Nat.le_of_ble_eq_true rfl) rfl ?_
        dsimp only [lset, lset2, List.set, List.getElem?_cons_zero, List.getElem?_cons_succ]
        refine wp_iinc (pc' := 98) rfl rfl rfl (inc_id (by omega) (by omega)) rfl ?_
        dsimp only [lset, lset2, List.set, List.getElem?_cons_zero, List.getElem?_cons_succ]
        refine wp_goto (pc' := 5) rfl rfl ?_
        exact ih (m + 1) _ _ _ _ (by omega) (by omega) (by rw [orN, ← hs]; subst hy; (try dsimp only); split <;> first | rfl | (exfalso; omega))
      · skip
        refine wp_iconst (a := 1) (pc' := 86) rfl rfl rfl ?_
        refine wp_iload (pc' := 88) rfl rfl rfl ?_
        refine wp_ishl (pc' := 89) rfl rfl rfl ?_
        refine wp_goto (pc' := 93) rfl rfl ?_
        refine wp_ior (pc' := 94) rfl rfl rfl ?_
        refine wp_istore_n (pc' := 95) rfl rfl (Nat.le_of_ble_eq_true rfl) rfl ?_
        dsimp only [lset, lset2, List.set, List.getElem?_cons_zero, List.getElem?_cons_succ]
        refine wp_iinc (pc' := 98) rfl rfl rfl (inc_id (by omega) (by omega)) rfl ?_
        dsimp only [lset, lset2, List.set, List.getElem?_cons_zero, List.getElem?_cons_succ]
        refine wp_goto (pc' := 5) rfl rfl ?_
        exact ih (m + 1) _ _ _ _ (by omega) (by omega) (by rw [orN, ← hs]; subst hy; (try dsimp only); split <;> first | rfl | (exfalso; omega))
set_option maxRecDepth 20000 in
set_option maxHeartbeats 4000000 in
theorem c_Mod_kindSet {w : Hp} {d : Nat} {i0 : Int} {r : Int} (hT : Stc w) (hr : 0 ≤ r ∧ r < 6) (hz : 0 ≤ w 102 r ∧ w 102 r ≤ 40) (he : w 102 r % 2 = 0) (hl : MdOK w) (hw : ∀ q : Int, 0 ≤ q → q < w 102 r / 2 → 0 ≤ w 103 (40 * r + 2 * q) ∧ w 103 (40 * r + 2 * q) < w 100 11 * w 100 12) (hi : 0 ≤ i0 ∧ i0 < w 100 10) : WP SH (d + 3) 212 0 [some (vR 100), some (vI i0), some (vI r), none, none, none, none] [] w (fun v w' => v = some (vI (orN (fun y => fitN (gKnd (w 100 11) (w 109 (3 + i0)) y) (fun j => w 103 (40 * r + j)) (w 102 r / 2).toNat) (6 : Int).toNat)) ∧ w' = w) := by
  refine wp_iconst (a := 0) (pc' := 1) rfl rfl rfl ?_
  refine wp_istore_n (pc' := 2) rfl rfl (Nat.le_of_ble_eq_true rfl) rfl ?_
  dsimp only [lset, lset2, List.set, List.getElem?_cons_zero, List.getElem?_cons_succ]
  refine wp_iconst (a := 0) (pc' := 3) rfl rfl rfl ?_
  refine wp_istore (pc' := 5) rfl rfl (Nat.le_of_ble_eq_true rfl) rfl ?_
  dsimp only [lset, lset2, List.set, List.getElem?_cons_zero, List.getElem?_cons_succ]
  exact l_MfitKinds hT hr hz he hl hw hi (6 : Int).toNat 0 _ _ _ _ rfl (by decide) rfl
