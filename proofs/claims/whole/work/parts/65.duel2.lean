/-! duel, the reference's turns; the public call -/
set_option maxRecDepth 20000 in
set_option maxHeartbeats 4000000 in
theorem l_Mduel3 {w : Hp} {d : Nat} {n x2 turn : Int} {Q : Option PV → Hp → Prop} (hT0 : Stc w) (hl : MdOK w) (ht : 0 ≤ turn ∧ turn ≤ 5) (K : ∀ (w1 : Hp) (x6 x7 x8 : Option PV), Same w w1 [123] → (∀ j : Int, 0 ≤ j → j < w 100 11 * w 100 12 → w1 123 j = wnt (w 100 11) (w 100 12) (w 122) (turn % 2) j 4) → WP SH (d + 5) 219 216 [some (vR 100), some (vI n), some (vI x2), some (vI (w 100 11 * w 100 12)), some (vI turn), some (vI (w 100 11 * w 100 12)), x6, x7, x8] [] w1 Q) : ∀ (k : Nat) (y : Int) (w1 : Hp) (x6 x7 x8 : Option PV), 0 ≤ y → y + k = w 100 11 * w 100 12 → Same w w1 [123] → (∀ j : Int, 0 ≤ j → j < y → w1 123 j = wnt (w 100 11) (w 100 12) (w 122) (turn % 2) j 4) → WP SH (d + 5) 219 69 [some (vR 100), some (vI n), some (vI x2), some (vI (w 100 11 * w 100 12)), some (vI turn), some (vI y), x6, x7, x8] [] w1 Q := by
  intro k
  induction k with
  | zero =>
    intro y w1 x6 x7 x8 h0 hyk hS hz
    have hT := hT0.same hS (by decide)
    have e1 : w1 100 = w 100 := hS 100 (by decide)
    have e7 : w1 107 = w 107 := hS 107 (by decide)
    have e8 : w1 108 = w 108 := hS 108 (by decide)
    have e9 : w1 109 = w 109 := hS 109 (by decide)
    have hl1 : MdOK w1 := hl.same hS (by decide)
    have hml := hl.1.mul
    have hml0 : w1 100 11 * w1 100 12 = w 100 11 * w 100 12 := by rw [e1]
    refine wp_iload (pc' := 71) rfl rfl rfl ?_
    refine wp_iload_n (pc' := 72) rfl rfl rfl ?_
    refine wp_icmp_ge (pc' := 75) (pt := 216) rfl rfl rfl (fun q_1 => ?_) (fun q_1 => ?_)
    · skip
      obtain rfl : y = w 100 11 * w 100 12 := by omega
      exact K w1 _ _ _ hS hz
    · skip
      exfalso; omega
  | succ k ih =>
    intro y w1 x6 x7 x8 h0 hyk hS hz
    have hT := hT0.same hS (by decide)
    have e1 : w1 100 = w 100 := hS 100 (by decide)
    have e7 : w1 107 = w 107 := hS 107 (by decide)
    have e8 : w1 108 = w 108 := hS 108 (by decide)
    have e9 : w1 109 = w 109 := hS 109 (by decide)
    have hl1 : MdOK w1 := hl.same hS (by decide)
    have hml := hl.1.mul
    have hml0 : w1 100 11 * w1 100 12 = w 100 11 * w 100 12 := by rw [e1]
    refine wp_iload (pc' := 71) rfl rfl rfl ?_
    refine wp_iload_n (pc' := 72) rfl rfl rfl ?_
    refine wp_icmp_ge (pc' := 75) (pt := 216) rfl rfl rfl (fun q_1 => ?_) (fun q_1 => ?_)
    · skip
      exfalso; omega
    · skip
      refine wp_aload_n (pc' := 76) rfl rfl rfl (by decide) ?_
      refine wp_getR (r' := 123) (ci := 10) (k0 := 33) (pc' := 79) rfl rfl (by decide) (by first | assumption | rfl) (hT.get 121 rfl) ?_
      refine wp_iload (pc' := 81) rfl rfl rfl ?_
      refine wp_aload_n (pc' := 82) rfl rfl rfl (by decide) ?_
      refine wp_getR (r' := 122) (ci := 10) (k0 := 32) (pc' := 85) rfl rfl (by decide) (by first | assumption | rfl) (hT.get 120 rfl) ?_
      refine wp_iload (pc' := 87) rfl rfl rfl ?_
      refine wp_iaload (pc' := 88) rfl rfl (by first | assumption | rfl) (by omega) ?_
      refine wp_iastore (pc' := 89) rfl rfl (by first | assumption | rfl) (by omega) ?_
      refine wp_iconst (a := 1) (pc' := 90) rfl rfl rfl ?_
      refine wp_istore (pc' := 92) rfl rfl (Nat.le_of_ble_eq_true rfl) rfl ?_
      dsimp only [lset, lset2, List.set, List.getElem?_cons_zero, List.getElem?_cons_succ]
      have hT2 : Stc (up w1 123 y (w1 122 y)) := hT.putA (by decide)
      have hl2 : MdOK (up w1 123 y (w1 122 y)) := hl1.same (L := [123]) ((Same.rf _ _).put (by decide)) (by decide)
      rw [show (w 100 11 * w 100 12 : Int) = up w1 123 y (w1 122 y) 100 11 * up w1 123 y (w1 122 y) 100 12 by rw [up_ne (by decide), e1]]
      refine l_Mduel2 (w := up w1 123 y (w1 122 y)) hT2 hl2 ht (by rw [up_ne (by decide), e1]; exact ⟨h0, by omega⟩) (fun w3 x6 x7 x8 hS3 hz3 => ?_) 4 0 _ _ _ _ rfl rfl (SameF.rf _ _ _) (by rw [up_eq, up_ne (show (122 : Int) ≠ 123 by decide)]; rfl)
      rw [show up w1 123 y (w1 122 y) 100 11 * up w1 123 y (w1 122 y) 100 12 = w 100 11 * w 100 12 by rw [up_ne (by decide), e1]]
      refine wp_iinc (pc' := 213) rfl rfl rfl (inc_id (by omega) (by omega)) rfl ?_
      dsimp only [lset, lset2, List.set, List.getElem?_cons_zero, List.getElem?_cons_succ]
      refine wp_goto (pc' := 69) rfl rfl ?_
      refine ih (y + 1) w3 _ _ _ (by omega) (by omega) ?_ (fun j j0 j1 => ?_)
      · intro r hr
        rw [hS3.cell r (by simp) (by simpa using fun h => hr (by simp [h])), up_ne (fun h => hr (by simp [h])), hS r hr]
      · by_cases hj : j = y
        · rw [hj, hz3, up_ne (show (100 : Int) ≠ 123 by decide), up_ne (show (122 : Int) ≠ 123 by decide), hS 100 (by decide), hS 122 (by decide)]
        · rw [hS3 123 j (by simp) (by simpa using hj), up_at hj]
          exact hz j j0 (by omega)
set_option maxRecDepth 20000 in
set_option maxHeartbeats 4000000 in
theorem l_Mduel4 {w : Hp} {d : Nat} {n x2 turn : Int} {x6 x7 x8 : Option PV} {Q : Option PV → Hp → Prop} (hT0 : Stc w) (hl : MdOK w) (K : ∀ (w1 : Hp), Same w w1 [122] → (∀ j : Int, 0 ≤ j → j < w 100 11 * w 100 12 → w1 122 j = w 123 j) → WP SH (d + 5) 219 245 [some (vR 100), some (vI n), some (vI x2), some (vI (w 100 11 * w 100 12)), some (vI turn), some (vI (w 100 11 * w 100 12)), x6, x7, x8] [] w1 Q) : ∀ (k : Nat) (y : Int) (w1 : Hp), 0 ≤ y → y + k = w 100 11 * w 100 12 → Same w w1 [122] → (∀ j : Int, 0 ≤ j → j < y → w1 122 j = w 123 j) → WP SH (d + 5) 219 219 [some (vR 100), some (vI n), some (vI x2), some (vI (w 100 11 * w 100 12)), some (vI turn), some (vI y), x6, x7, x8] [] w1 Q := by
  intro k
  induction k with
  | zero =>
    intro y w1 h0 hyk hS hz
    have hT := hT0.same hS (by decide)
    have e1 : w1 100 = w 100 := hS 100 (by decide)
    have e7 : w1 107 = w 107 := hS 107 (by decide)
    have e8 : w1 108 = w 108 := hS 108 (by decide)
    have e9 : w1 109 = w 109 := hS 109 (by decide)
    have hl1 : MdOK w1 := hl.same hS (by decide)
    have hml := hl.1.mul
    have hml0 : w1 100 11 * w1 100 12 = w 100 11 * w 100 12 := by rw [e1]
    refine wp_iload (pc' := 221) rfl rfl rfl ?_
    refine wp_iload_n (pc' := 222) rfl rfl rfl ?_
    refine wp_icmp_ge (pc' := 225) (pt := 245) rfl rfl rfl (fun q_1 => ?_) (fun q_1 => ?_)
    · skip
      obtain rfl : y = w 100 11 * w 100 12 := by omega
      exact K w1 hS hz
    · skip
      exfalso; omega
  | succ k ih =>
    intro y w1 h0 hyk hS hz
    have hT := hT0.same hS (by decide)
    have e1 : w1 100 = w 100 := hS 100 (by decide)
    have e7 : w1 107 = w 107 := hS 107 (by decide)
    have e8 : w1 108 = w 108 := hS 108 (by decide)
    have e9 : w1 109 = w 109 := hS 109 (by decide)
    have hl1 : MdOK w1 := hl.same hS (by decide)
    have hml := hl.1.mul
    have hml0 : w1 100 11 * w1 100 12 = w 100 11 * w 100 12 := by rw [e1]
    refine wp_iload (pc' := 221) rfl rfl rfl ?_
    refine wp_iload_n (pc' := 222) rfl rfl rfl ?_
    refine wp_icmp_ge (pc' := 225) (pt := 245) rfl rfl rfl (fun q_1 => ?_) (fun q_1 => ?_)
    · skip
      exfalso; omega
    · skip
      refine wp_aload_n (pc' := 226) rfl rfl rfl (by decide) ?_
      refine wp_getR (r' := 122) (ci := 10) (k0 := 32) (pc' := 229) rfl rfl (by decide) (by first | assumption | rfl) (hT.get 120 rfl) ?_
      refine wp_iload (pc' := 231) rfl rfl rfl ?_
      refine wp_aload_n (pc' := 232) rfl rfl rfl (by decide) ?_
      refine wp_getR (r' := 123) (ci := 10) (k0 := 33) (pc' := 235) rfl rfl (by decide) (by first | assumption | rfl) (hT.get 121 rfl) ?_
      refine wp_iload (pc' := 237) rfl rfl rfl ?_
      refine wp_iaload (pc' := 238) rfl rfl (by first | assumption | rfl) (by omega) ?_
      refine wp_iastore (pc' := 239) rfl rfl (by first | assumption | rfl) (by omega) ?_
      refine wp_iinc (pc' := 242) rfl rfl rfl (inc_id (by omega) (by omega)) rfl ?_
      dsimp only [lset, lset2, List.set, List.getElem?_cons_zero, List.getElem?_cons_succ]
      refine wp_goto (pc' := 219) rfl rfl ?_
      refine ih (y + 1) _ (by omega) (by omega) (hS.put (by decide)) (fun j j0 j1 => ?_)
      by_cases hj : j = y
      · rw [hj, up_eq, hS 123 (by decide)]
      · rw [up_at hj]
        exact hz j j0 (by omega)
set_option maxRecDepth 20000 in
set_option maxHeartbeats 4000000 in
theorem l_Mduel5 {w : Hp} {d : Nat} {n x2 : Int} (hT0 : Stc w) (hl : MdOK w) (hx : Cel (w 100 11) (w 100 12) (w 109 0)) (hn : 0 ≤ n ∧ n ≤ 6) : ∀ (k q : Nat) (turn : Int) (w1 : Hp) (x5 x6 x7 x8 : Option PV), turn = (k : Int) - 1 → (k : Int) + q = n → Same w w1 [122, 123] → (∀ j : Int, 0 ≤ j → j < w 100 11 * w 100 12 → w1 122 j = (dlv (w 100 11) (w 100 12) n (fun x => sumI (fWorth (w 100 11) (w 107) (fun i => w 109 (3 + i)) (w 108) x) (w 100 10)) q) j) → WP SH (d + 5) 219 61 [some (vR 100), some (vI n), some (vI x2), some (vI (w 100 11 * w 100 12)), some (vI turn), x5, x6, x7, x8] [] w1 (fun v w' => v = some (vI ((dlv (w 100 11) (w 100 12) n (fun x => sumI (fWorth (w 100 11) (w 107) (fun i => w 109 (3 + i)) (w 108) x) (w 100 10)) n.toNat) (w 109 0))) ∧ Same w w' [122, 123]) := by
  intro k
  induction k with
  | zero =>
    intro q turn w1 x5 x6 x7 x8 hturn hkq hS he
    have hT := hT0.same hS (by decide)
    have e1 : w1 100 = w 100 := hS 100 (by decide)
    have e7 : w1 107 = w 107 := hS 107 (by decide)
    have e8 : w1 108 = w 108 := hS 108 (by decide)
    have e9 : w1 109 = w 109 := hS 109 (by decide)
    have hl1 : MdOK w1 := hl.same hS (by decide)
    have hml := hl.1.mul
    have hml0 : w1 100 11 * w1 100 12 = w 100 11 * w 100 12 := by rw [e1]
    have hxd := hx.dm hl.1
    have hx1 : w1 109 0 = w 109 0 := by rw [e9]
    refine wp_iload (pc' := 63) rfl rfl rfl ?_
    refine wp_if_lt (pc' := 66) (pt := 251) rfl rfl rfl (fun q_1 => ?_) (fun q_1 => ?_)
    · skip
      refine wp_aload_n (pc' := 252) rfl rfl rfl (by decide) ?_
      refine wp_getR (r' := 122) (ci := 10) (k0 := 32) (pc' := 255) rfl rfl (by decide) (by first | assumption | rfl) (hT.get 120 rfl) ?_
      refine wp_aload_n (pc' := 256) rfl rfl rfl (by decide) ?_
      refine wp_getR (r' := 109) (ci := 10) (k0 := 15) (pc' := 259) rfl rfl (by decide) (by first | assumption | rfl) (hT.get 107 rfl) ?_
      refine wp_iconst (a := 0) (pc' := 260) rfl rfl rfl ?_
      refine wp_iaload (pc' := 261) rfl rfl (by first | assumption | rfl) (by omega) ?_
      refine wp_iaload (pc' := 262) rfl rfl (by first | assumption | rfl) (by omega) ?_
      refine wp_ret rfl rfl rfl ?_
      refine ⟨congrArg (fun z => some (vI z)) ?_, hS⟩
      have h8 := he (w 109 0) hx.1 hx.2
      rw [show q = n.toNat by omega] at h8
      rw [e9]
      exact h8
    · skip
      exfalso; omega
  | succ k ih =>
    intro q turn w1 x5 x6 x7 x8 hturn hkq hS he
    have hT := hT0.same hS (by decide)
    have e1 : w1 100 = w 100 := hS 100 (by decide)
    have e7 : w1 107 = w 107 := hS 107 (by decide)
    have e8 : w1 108 = w 108 := hS 108 (by decide)
    have e9 : w1 109 = w 109 := hS 109 (by decide)
    have hl1 : MdOK w1 := hl.same hS (by decide)
    have hml := hl.1.mul
    have hml0 : w1 100 11 * w1 100 12 = w 100 11 * w 100 12 := by rw [e1]
    have hxd := hx.dm hl.1
    have hx1 : w1 109 0 = w 109 0 := by rw [e9]
    refine wp_iload (pc' := 63) rfl rfl rfl ?_
    refine wp_if_lt (pc' := 66) (pt := 251) rfl rfl rfl (fun q_1 => ?_) (fun q_1 => ?_)
    · skip
      exfalso; omega
    · skip
      refine wp_iconst (a := 0) (pc' := 67) rfl rfl rfl ?_
      refine wp_istore (pc' := 69) rfl rfl (Nat.le_of_ble_eq_true rfl) rfl ?_
      dsimp only [lset, lset2, List.set, List.getElem?_cons_zero, List.getElem?_cons_succ]
      rw [show (w 100 11 * w 100 12 : Int) = w1 100 11 * w1 100 12 from hml0.symm]
      refine l_Mduel3 (w := w1) hT hl1 (by omega) (fun w2 x6 x7 x8 hS2 hz2 => ?_) (w1 100 11 * w1 100 12).toNat 0 w1 _ _ _ (by decide) (by omega) (Same.rf _ _) (fun j a b => absurd b (by omega))
      have hT2 := hT.same hS2 (by decide)
      rw [hml0]
      refine wp_iconst (a := 0) (pc' := 217) rfl rfl rfl ?_
      refine wp_istore (pc' := 219) rfl rfl (Nat.le_of_ble_eq_true rfl) rfl ?_
      dsimp only [lset, lset2, List.set, List.getElem?_cons_zero, List.getElem?_cons_succ]
      rw [show (w 100 11 * w 100 12 : Int) = w2 100 11 * w2 100 12 by rw [hS2 100 (by decide), e1]]
      refine l_Mduel4 (w := w2) hT2 (hl1.same hS2 (by decide)) (fun w3 hS3 hz3 => ?_) (w2 100 11 * w2 100 12).toNat 0 w2 (by decide) (by rw [hS2 100 (by decide), e1]; omega) (Same.rf _ _) (fun j a b => absurd b (by omega))
      rw [show w2 100 11 * w2 100 12 = w 100 11 * w 100 12 by rw [hS2 100 (by decide), e1]]
      refine wp_iinc (pc' := 248) rfl rfl rfl (inc_id (by omega) (by omega)) rfl ?_
      dsimp only [lset, lset2, List.set, List.getElem?_cons_zero, List.getElem?_cons_succ]
      refine wp_goto (pc' := 61) rfl rfl ?_
      refine ih (q + 1) _ w3 _ _ _ _ (by omega) (by omega) (hS.tr ((hS2.mono (by simp)).tr (hS3.mono (by simp)))) (fun j j0 j1 => ?_)
      rw [hz3 j j0 (by rw [hS2 100 (by decide), e1]; exact j1), hz2 j j0 (by rw [e1]; exact j1), e1]
      show _ = wnt _ _ _ _ _ 4
      rw [show n - 1 - (q : Int) = turn by omega]
      exact wnt_congr hl.1 ⟨j0, j1⟩ (fun i hi => he i hi.1 hi.2) 4
set_option maxRecDepth 20000 in
set_option maxHeartbeats 4000000 in
theorem p_duel {w : Hp} {d : Nat} {n : Int} (hI : Inv w) : WP SH (d + 9) 112 0 [some (vR 0), some (vI n)] [] w (fun v0 w1 => ∃ a, v0 = some (vI a) ∧ w1 (-2) = w (-2) ∧ WP SH (d + 9) 219 0 [some (vR 100), some (vI n), none, none, none, none, none, none, none] [] w1 (fun v2 w2 => v2 = some (vI a) ∧ w2 (-2) = w1 (-2) ∧ Inv w2)) := by
  obtain ⟨hT, hRO, hIF, hITo, hIR, hIT, hIL, hIK⟩ := id hI
  obtain ⟨hn25, b11, b12, b10, hn6, hem, m0, m1, m2, m23, hyr, hdd, hpre⟩ := hI.base
  have hmm : w 100 11 * w 100 12 = w 3 0 * w 3 1 := by rw [b11, b12]
  refine wp_iload_n (pc' := 1) rfl rfl rfl ?_
  refine wp_if_lt (pc' := 4) (pt := 10) rfl rfl rfl (fun q_1 => ?_) (fun q_1 => ?_)
  · skip
    refine wp_iconst (a := -1) (pc' := 11) rfl rfl rfl ?_
    refine wp_ret rfl rfl rfl ?_
    refine ⟨_, rfl, ?_, ?_⟩
    · rfl
    refine wp_aload_n (pc' := 1) rfl rfl rfl (by decide) ?_
    refine wp_iload_n (pc' := 2) rfl rfl rfl ?_
    refine wp_iconst (a := 0) (pc' := 3) rfl rfl rfl ?_
    refine wp_bipush (a := 6) (pc' := 5) rfl rfl rfl ?_
    refine wp_call (pc' := 8) rfl rfl rfl rfl rfl ⟨Nat.le_of_ble_eq_true rfl, Nat.le_of_ble_eq_true rfl, Nat.le_of_ble_eq_true rfl, Nat.le_of_ble_eq_true rfl, Nat.le_of_ble_eq_true rfl⟩ rfl (c_Mod_in) ?_
    rintro v1 w9 ⟨hw9, ⟨hv1, hin⟩ | ⟨hv1, hin⟩⟩
    · skip
      rw [hv1, hw9]
      clear hv1 hw9 v1 w9
      dsimp only [Option.toList, List.cons_append, List.nil_append, List.append_nil]
      refine wp_call (pc' := 11) rfl rfl rfl rfl rfl ⟨Nat.le_of_ble_eq_true rfl, Nat.le_of_ble_eq_true rfl, Nat.le_of_ble_eq_true rfl, Nat.le_of_ble_eq_true rfl, Nat.le_of_ble_eq_true rfl⟩ rfl (c_Mod_need (by decide)) ?_
      rintro v1 w9 ⟨hw9, ⟨hv1, hg1⟩ | ⟨hv1, hg1, hg2⟩ | ⟨hv1, hg1, hg2⟩⟩
      · skip
        rw [hv1, hw9]
        clear hv1 hw9 v1 w9
        dsimp only [Option.toList, List.cons_append, List.nil_append, List.append_nil]
        refine wp_istore_n (pc' := 12) rfl rfl (Nat.le_of_ble_eq_true rfl) rfl ?_
        dsimp only [lset, lset2, List.set, List.getElem?_cons_zero, List.getElem?_cons_succ]
        refine wp_iload_n (pc' := 13) rfl rfl rfl ?_
        refine wp_if_ge (pc' := 16) (pt := 18) rfl rfl rfl (fun q_52 => absurd q_52 (by decide)) (fun q_52 => ?_)
        refine wp_iload_n (pc' := 17) rfl rfl rfl ?_
        refine wp_ret rfl rfl rfl ?_
        first
        | (exfalso; omega)
        | exact ⟨rfl, rfl, hI⟩
      · skip
        rw [hv1, hw9]
        clear hv1 hw9 v1 w9
        dsimp only [Option.toList, List.cons_append, List.nil_append, List.append_nil]
        refine wp_istore_n (pc' := 12) rfl rfl (Nat.le_of_ble_eq_true rfl) rfl ?_
        dsimp only [lset, lset2, List.set, List.getElem?_cons_zero, List.getElem?_cons_succ]
        refine wp_iload_n (pc' := 13) rfl rfl rfl ?_
        refine wp_if_ge (pc' := 16) (pt := 18) rfl rfl rfl (fun q_53 => absurd q_53 (by decide)) (fun q_53 => ?_)
        refine wp_iload_n (pc' := 17) rfl rfl rfl ?_
        refine wp_ret rfl rfl rfl ?_
        first
        | (exfalso; omega)
        | exact ⟨rfl, rfl, hI⟩
      · skip
        rw [hv1, hw9]
        clear hv1 hw9 v1 w9
        dsimp only [Option.toList, List.cons_append, List.nil_append, List.append_nil]
        refine wp_istore_n (pc' := 12) rfl rfl (Nat.le_of_ble_eq_true rfl) rfl ?_
        dsimp only [lset, lset2, List.set, List.getElem?_cons_zero, List.getElem?_cons_succ]
        refine wp_iload_n (pc' := 13) rfl rfl rfl ?_
        refine wp_if_ge (pc' := 16) (pt := 18) rfl rfl rfl (fun q_54 => ?_) (fun q_54 => absurd (by decide) q_54)
        exfalso; omega
    · skip
      rw [hv1, hw9]
      clear hv1 hw9 v1 w9
      dsimp only [Option.toList, List.cons_append, List.nil_append, List.append_nil]
      refine wp_call (pc' := 11) rfl rfl rfl rfl rfl ⟨Nat.le_of_ble_eq_true rfl, Nat.le_of_ble_eq_true rfl, Nat.le_of_ble_eq_true rfl, Nat.le_of_ble_eq_true rfl, Nat.le_of_ble_eq_true rfl⟩ rfl (c_Mod_need (by decide)) ?_
      rintro v1 w9 ⟨hw9, ⟨hv1, hg1⟩ | ⟨hv1, hg1, hg2⟩ | ⟨hv1, hg1, hg2⟩⟩
      · skip
        rw [hv1, hw9]
        clear hv1 hw9 v1 w9
        dsimp only [Option.toList, List.cons_append, List.nil_append, List.append_nil]
        refine wp_istore_n (pc' := 12) rfl rfl (Nat.le_of_ble_eq_true rfl) rfl ?_
        dsimp only [lset, lset2, List.set, List.getElem?_cons_zero, List.getElem?_cons_succ]
        refine wp_iload_n (pc' := 13) rfl rfl rfl ?_
        refine wp_if_ge (pc' := 16) (pt := 18) rfl rfl rfl (fun q_55 => absurd q_55 (by decide)) (fun q_55 => ?_)
        refine wp_iload_n (pc' := 17) rfl rfl rfl ?_
        refine wp_ret rfl rfl rfl ?_
        first
        | (exfalso; omega)
        | exact ⟨rfl, rfl, hI⟩
      · skip
        rw [hv1, hw9]
        clear hv1 hw9 v1 w9
        dsimp only [Option.toList, List.cons_append, List.nil_append, List.append_nil]
        refine wp_istore_n (pc' := 12) rfl rfl (Nat.le_of_ble_eq_true rfl) rfl ?_
        dsimp only [lset, lset2, List.set, List.getElem?_cons_zero, List.getElem?_cons_succ]
        refine wp_iload_n (pc' := 13) rfl rfl rfl ?_
        refine wp_if_ge (pc' := 16) (pt := 18) rfl rfl rfl (fun q_56 => absurd q_56 (by decide)) (fun q_56 => ?_)
        refine wp_iload_n (pc' := 17) rfl rfl rfl ?_
        refine wp_ret rfl rfl rfl ?_
        first
        | (exfalso; omega)
        | exact ⟨rfl, rfl, hI⟩
      · skip
        rw [hv1, hw9]
        clear hv1 hw9 v1 w9
        dsimp only [Option.toList, List.cons_append, List.nil_append, List.append_nil]
        refine wp_istore_n (pc' := 12) rfl rfl (Nat.le_of_ble_eq_true rfl) rfl ?_
        dsimp only [lset, lset2, List.set, List.getElem?_cons_zero, List.getElem?_cons_succ]
        refine wp_iload_n (pc' := 13) rfl rfl rfl ?_
        refine wp_if_ge (pc' := 16) (pt := 18) rfl rfl rfl (fun q_57 => ?_) (fun q_57 => absurd (by decide) q_57)
        exfalso; omega
  · skip
    refine wp_iload_n (pc' := 5) rfl rfl rfl ?_
    refine wp_bipush (a := 6) (pc' := 7) rfl rfl rfl ?_
    refine wp_icmp_le (pc' := 10) (pt := 12) rfl rfl rfl (fun q_58 => ?_) (fun q_58 => ?_)
    · skip
      refine wp_aload_n (pc' := 13) rfl rfl rfl (by decide) ?_
      refine wp_getR (r' := 3) (ci := 9) (k0 := 2) (pc' := 16) rfl rfl (by decide) (by first | assumption | rfl) (hT.get 2 rfl) ?_
      refine wp_call (pc' := 19) rfl rfl rfl rfl rfl ⟨Nat.le_of_ble_eq_true rfl, Nat.le_of_ble_eq_true rfl, Nat.le_of_ble_eq_true rfl, Nat.le_of_ble_eq_true rfl, Nat.le_of_ble_eq_true rfl⟩ rfl (c_Land_isEmpty_3) ?_
      rintro v1 w9 ⟨hw9, ⟨hv1, he⟩ | ⟨hv1, he⟩⟩
      · skip
        rw [hv1, hw9]
        clear hv1 hw9 v1 w9
        dsimp only [Option.toList, List.cons_append, List.nil_append, List.append_nil]
        refine wp_if_eq (pc' := 22) (pt := 25) rfl rfl rfl (fun q_59 => absurd q_59 (by decide)) (fun q_59 => ?_)
        refine wp_bipush (a := -4) (pc' := 24) rfl rfl rfl ?_
        refine wp_ret rfl rfl rfl ?_
        refine ⟨_, rfl, ?_, ?_⟩
        · rfl
        refine wp_aload_n (pc' := 1) rfl rfl rfl (by decide) ?_
        refine wp_iload_n (pc' := 2) rfl rfl rfl ?_
        refine wp_iconst (a := 0) (pc' := 3) rfl rfl rfl ?_
        refine wp_bipush (a := 6) (pc' := 5) rfl rfl rfl ?_
        refine wp_call (pc' := 8) rfl rfl rfl rfl rfl ⟨Nat.le_of_ble_eq_true rfl, Nat.le_of_ble_eq_true rfl, Nat.le_of_ble_eq_true rfl, Nat.le_of_ble_eq_true rfl, Nat.le_of_ble_eq_true rfl⟩ rfl (c_Mod_in) ?_
        rintro v1 w9 ⟨hw9, ⟨hv1, hin⟩ | ⟨hv1, hin⟩⟩
        · skip
          rw [hv1, hw9]
          clear hv1 hw9 v1 w9
          dsimp only [Option.toList, List.cons_append, List.nil_append, List.append_nil]
          refine wp_call (pc' := 11) rfl rfl rfl rfl rfl ⟨Nat.le_of_ble_eq_true rfl, Nat.le_of_ble_eq_true rfl, Nat.le_of_ble_eq_true rfl, Nat.le_of_ble_eq_true rfl, Nat.le_of_ble_eq_true rfl⟩ rfl (c_Mod_need (by decide)) ?_
          rintro v1 w9 ⟨hw9, ⟨hv1, hg1⟩ | ⟨hv1, hg1, hg2⟩ | ⟨hv1, hg1, hg2⟩⟩
          · skip
            rw [hv1, hw9]
            clear hv1 hw9 v1 w9
            dsimp only [Option.toList, List.cons_append, List.nil_append, List.append_nil]
            refine wp_istore_n (pc' := 12) rfl rfl (Nat.le_of_ble_eq_true rfl) rfl ?_
            dsimp only [lset, lset2, List.set, List.getElem?_cons_zero, List.getElem?_cons_succ]
            refine wp_iload_n (pc' := 13) rfl rfl rfl ?_
            refine wp_if_ge (pc' := 16) (pt := 18) rfl rfl rfl (fun q_110 => absurd q_110 (by decide)) (fun q_110 => ?_)
            refine wp_iload_n (pc' := 17) rfl rfl rfl ?_
            refine wp_ret rfl rfl rfl ?_
            first
            | (exfalso; omega)
            | exact ⟨rfl, rfl, hI⟩
          · skip
            rw [hv1, hw9]
            clear hv1 hw9 v1 w9
            dsimp only [Option.toList, List.cons_append, List.nil_append, List.append_nil]
            refine wp_istore_n (pc' := 12) rfl rfl (Nat.le_of_ble_eq_true rfl) rfl ?_
            dsimp only [lset, lset2, List.set, List.getElem?_cons_zero, List.getElem?_cons_succ]
            refine wp_iload_n (pc' := 13) rfl rfl rfl ?_
            refine wp_if_ge (pc' := 16) (pt := 18) rfl rfl rfl (fun q_111 => absurd q_111 (by decide)) (fun q_111 => ?_)
            refine wp_iload_n (pc' := 17) rfl rfl rfl ?_
            refine wp_ret rfl rfl rfl ?_
            first
            | (exfalso; omega)
            | exact ⟨rfl, rfl, hI⟩
          · skip
            rw [hv1, hw9]
            clear hv1 hw9 v1 w9
            dsimp only [Option.toList, List.cons_append, List.nil_append, List.append_nil]
            refine wp_istore_n (pc' := 12) rfl rfl (Nat.le_of_ble_eq_true rfl) rfl ?_
            dsimp only [lset, lset2, List.set, List.getElem?_cons_zero, List.getElem?_cons_succ]
            refine wp_iload_n (pc' := 13) rfl rfl rfl ?_
            refine wp_if_ge (pc' := 16) (pt := 18) rfl rfl rfl (fun q_112 => ?_) (fun q_112 => absurd (by decide) q_112)
            exfalso; omega
        · skip
          rw [hv1, hw9]
          clear hv1 hw9 v1 w9
          dsimp only [Option.toList, List.cons_append, List.nil_append, List.append_nil]
          refine wp_call (pc' := 11) rfl rfl rfl rfl rfl ⟨Nat.le_of_ble_eq_true rfl, Nat.le_of_ble_eq_true rfl, Nat.le_of_ble_eq_true rfl, Nat.le_of_ble_eq_true rfl, Nat.le_of_ble_eq_true rfl⟩ rfl (c_Mod_need (by decide)) ?_
          rintro v1 w9 ⟨hw9, ⟨hv1, hg1⟩ | ⟨hv1, hg1, hg2⟩ | ⟨hv1, hg1, hg2⟩⟩
          · skip
            rw [hv1, hw9]
            clear hv1 hw9 v1 w9
            dsimp only [Option.toList, List.cons_append, List.nil_append, List.append_nil]
            refine wp_istore_n (pc' := 12) rfl rfl (Nat.le_of_ble_eq_true rfl) rfl ?_
            dsimp only [lset, lset2, List.set, List.getElem?_cons_zero, List.getElem?_cons_succ]
            refine wp_iload_n (pc' := 13) rfl rfl rfl ?_
            refine wp_if_ge (pc' := 16) (pt := 18) rfl rfl rfl (fun q_113 => absurd q_113 (by decide)) (fun q_113 => ?_)
            refine wp_iload_n (pc' := 17) rfl rfl rfl ?_
            refine wp_ret rfl rfl rfl ?_
            first
            | (exfalso; omega)
            | exact ⟨rfl, rfl, hI⟩
          · skip
            rw [hv1, hw9]
            clear hv1 hw9 v1 w9
            dsimp only [Option.toList, List.cons_append, List.nil_append, List.append_nil]
            refine wp_istore_n (pc' := 12) rfl rfl (Nat.le_of_ble_eq_true rfl) rfl ?_
            dsimp only [lset, lset2, List.set, List.getElem?_cons_zero, List.getElem?_cons_succ]
            refine wp_iload_n (pc' := 13) rfl rfl rfl ?_
            refine wp_if_ge (pc' := 16) (pt := 18) rfl rfl rfl (fun q_114 => absurd q_114 (by decide)) (fun q_114 => ?_)
            refine wp_iload_n (pc' := 17) rfl rfl rfl ?_
            refine wp_ret rfl rfl rfl ?_
            first
            | (exfalso; omega)
            | exact ⟨rfl, rfl, hI⟩
          · skip
            rw [hv1, hw9]
            clear hv1 hw9 v1 w9
            dsimp only [Option.toList, List.cons_append, List.nil_append, List.append_nil]
            refine wp_istore_n (pc' := 12) rfl rfl (Nat.le_of_ble_eq_true rfl) rfl ?_
            dsimp only [lset, lset2, List.set, List.getElem?_cons_zero, List.getElem?_cons_succ]
            refine wp_iload_n (pc' := 13) rfl rfl rfl ?_
            refine wp_if_ge (pc' := 16) (pt := 18) rfl rfl rfl (fun q_115 => ?_) (fun q_115 => absurd (by decide) q_115)
            exfalso; omega
      · skip
        rw [hv1, hw9]
        clear hv1 hw9 v1 w9
        have hpr := hpre (by omega)
        have hn0 : w 3 2 ≠ 0 := by omega
        dsimp only [Option.toList, List.cons_append, List.nil_append, List.append_nil]
        refine wp_if_eq (pc' := 22) (pt := 25) rfl rfl rfl (fun q_116 => ?_) (fun q_116 => absurd (by decide) q_116)
        refine wp_aload_n (pc' := 26) rfl rfl rfl (by decide) ?_
        refine wp_getR (r' := 28) (ci := 9) (k0 := 8) (pc' := 29) rfl rfl (by decide) (by first | assumption | rfl) (hT.get 8 rfl) ?_
        refine wp_aload_n (pc' := 30) rfl rfl rfl (by decide) ?_
        refine wp_getR (r' := 3) (ci := 9) (k0 := 2) (pc' := 33) rfl rfl (by decide) (by first | assumption | rfl) (hT.get 2 rfl) ?_
        refine wp_iload_n (pc' := 34) rfl rfl rfl ?_
        refine wp_call (pc' := 37) rfl rfl rfl rfl rfl ⟨Nat.le_of_ble_eq_true rfl, Nat.le_of_ble_eq_true rfl, Nat.le_of_ble_eq_true rfl, Nat.le_of_ble_eq_true rfl, Nat.le_of_ble_eq_true rfl⟩ rfl (c_Plans_duelWorth hT hpr.1 hpr.2.2.1 (by omega)) ?_
        rintro v1 w1 ⟨hv1, hS1⟩
        rw [hv1]
        clear hv1 v1
        have hQ1 : SameF w w1 LQ FQ := qry (hS1.F []) (by decide) (by decide)
        obtain ⟨hT, hr1, hl1, hm1, e31, e41, e51, e61, g111, g121, g101, g71, g81, g91, hx1⟩ := vw hI hn0 hQ1
        dsimp only [Option.toList, List.cons_append, List.nil_append, List.append_nil]
        refine wp_ret rfl rfl rfl ?_
        refine ⟨_, rfl, ?_, ?_⟩
        · exact hS1 (-2) (by decide)
        refine wp_aload_n (pc' := 1) rfl rfl rfl (by decide) ?_
        refine wp_iload_n (pc' := 2) rfl rfl rfl ?_
        refine wp_iconst (a := 0) (pc' := 3) rfl rfl rfl ?_
        refine wp_bipush (a := 6) (pc' := 5) rfl rfl rfl ?_
        refine wp_call (pc' := 8) rfl rfl rfl rfl rfl ⟨Nat.le_of_ble_eq_true rfl, Nat.le_of_ble_eq_true rfl, Nat.le_of_ble_eq_true rfl, Nat.le_of_ble_eq_true rfl, Nat.le_of_ble_eq_true rfl⟩ rfl (c_Mod_in) ?_
        rintro v1 w9 ⟨hw9, ⟨hv1, hin⟩ | ⟨hv1, hin⟩⟩
        · skip
          rw [hv1, hw9]
          clear hv1 hw9 v1 w9
          dsimp only [Option.toList, List.cons_append, List.nil_append, List.append_nil]
          refine wp_call (pc' := 11) rfl rfl rfl rfl rfl ⟨Nat.le_of_ble_eq_true rfl, Nat.le_of_ble_eq_true rfl, Nat.le_of_ble_eq_true rfl, Nat.le_of_ble_eq_true rfl, Nat.le_of_ble_eq_true rfl⟩ rfl (c_Mod_need (by decide)) ?_
          rintro v1 w9 ⟨hw9, ⟨hv1, hg1⟩ | ⟨hv1, hg1, hg2⟩ | ⟨hv1, hg1, hg2⟩⟩
          · skip
            rw [hv1, hw9]
            clear hv1 hw9 v1 w9
            dsimp only [Option.toList, List.cons_append, List.nil_append, List.append_nil]
            refine wp_istore_n (pc' := 12) rfl rfl (Nat.le_of_ble_eq_true rfl) rfl ?_
            dsimp only [lset, lset2, List.set, List.getElem?_cons_zero, List.getElem?_cons_succ]
            refine wp_iload_n (pc' := 13) rfl rfl rfl ?_
            refine wp_if_ge (pc' := 16) (pt := 18) rfl rfl rfl (fun q_167 => absurd q_167 (by decide)) (fun q_167 => ?_)
            refine wp_iload_n (pc' := 17) rfl rfl rfl ?_
            refine wp_ret rfl rfl rfl ?_
            first
            | (exfalso; omega)
            | exact ⟨rfl, rfl, hI⟩
          · skip
            rw [hv1, hw9]
            clear hv1 hw9 v1 w9
            dsimp only [Option.toList, List.cons_append, List.nil_append, List.append_nil]
            refine wp_istore_n (pc' := 12) rfl rfl (Nat.le_of_ble_eq_true rfl) rfl ?_
            dsimp only [lset, lset2, List.set, List.getElem?_cons_zero, List.getElem?_cons_succ]
            refine wp_iload_n (pc' := 13) rfl rfl rfl ?_
            refine wp_if_ge (pc' := 16) (pt := 18) rfl rfl rfl (fun q_168 => absurd q_168 (by decide)) (fun q_168 => ?_)
            refine wp_iload_n (pc' := 17) rfl rfl rfl ?_
            refine wp_ret rfl rfl rfl ?_
            first
            | (exfalso; omega)
            | exact ⟨rfl, rfl, hI⟩
          · skip
            rw [hv1, hw9]
            clear hv1 hw9 v1 w9
            dsimp only [Option.toList, List.cons_append, List.nil_append, List.append_nil]
            refine wp_istore_n (pc' := 12) rfl rfl (Nat.le_of_ble_eq_true rfl) rfl ?_
            dsimp only [lset, lset2, List.set, List.getElem?_cons_zero, List.getElem?_cons_succ]
            refine wp_iload_n (pc' := 13) rfl rfl rfl ?_
            refine wp_if_ge (pc' := 16) (pt := 18) rfl rfl rfl (fun q_169 => ?_) (fun q_169 => absurd (by decide) q_169)
            have hml := hm1.1.mul
            refine wp_aload_n (pc' := 19) rfl rfl rfl (by decide) ?_
            refine wp_getI (ci := 10) (k0 := 11) (pc' := 22) rfl rfl (by decide) (by first | assumption | rfl) ?_
            refine wp_aload_n (pc' := 23) rfl rfl rfl (by decide) ?_
            refine wp_getI (ci := 10) (k0 := 12) (pc' := 26) rfl rfl (by decide) (by first | assumption | rfl) ?_
            refine wp_imul (pc' := 27) rfl rfl (by first | exact w32_id (by omega) (by omega) | rfl) ?_
            refine wp_istore_n (pc' := 28) rfl rfl (Nat.le_of_ble_eq_true rfl) rfl ?_
            dsimp only [lset, lset2, List.set, List.getElem?_cons_zero, List.getElem?_cons_succ]
            refine wp_iconst (a := 0) (pc' := 29) rfl rfl rfl ?_
            refine wp_istore (pc' := 31) rfl rfl (Nat.le_of_ble_eq_true rfl) rfl ?_
            dsimp only [lset, lset2, List.set, List.getElem?_cons_zero, List.getElem?_cons_succ]
            have hml := hm1.1.mul
            refine l_Mduel1 (w := w1) hT hm1 (fun w2 hS2 hz2 => ?_) (w1 100 11 * w1 100 12).toNat 0 w1 (by decide) (by omega) (Same.rf _ _) (fun j a b => absurd b (by omega))
            refine wp_iload_n (pc' := 57) rfl rfl rfl ?_
            refine wp_iconst (a := 1) (pc' := 58) rfl rfl rfl ?_
            refine wp_isub (pc' := 59) rfl rfl (by first | exact w32_id (by omega) (by omega) | rfl) ?_
            refine wp_istore (pc' := 61) rfl rfl (Nat.le_of_ble_eq_true rfl) rfl ?_
            dsimp only [lset, lset2, List.set, List.getElem?_cons_zero, List.getElem?_cons_succ]
            refine (l_Mduel5 (w := w1) hT hm1 hx1 (by omega) n.toNat 0 _ w2 _ _ _ _ (by omega) (by omega) hS2 hz2).mono (fun v w3 hq => ?_)
            refine ⟨?_, hq.2 (-2) (by decide), hI.query (w' := w3) (hQ1.tr (qry (hq.2.F []) (by decide) (by decide))) ?_⟩
            · rw [hq.1, g111, g121, g101, g71, g81, g91, m0]
              refine congrArg (fun z => some (vI z)) (dlv_congr hpr.1.1 (fun j _ => ?_) n.toNat (w 3 3) hpr.2.2.1)
              exact worth_congr (fun i a b => hpr.2.2.2.2 i a b)
            · rw [hq.2 0 (by decide), hq.2 100 (by decide), hS1 0 (by decide), hS1 100 (by decide)]
              exact hITo
        · skip
          rw [hv1, hw9]
          clear hv1 hw9 v1 w9
          dsimp only [Option.toList, List.cons_append, List.nil_append, List.append_nil]
          refine wp_call (pc' := 11) rfl rfl rfl rfl rfl ⟨Nat.le_of_ble_eq_true rfl, Nat.le_of_ble_eq_true rfl, Nat.le_of_ble_eq_true rfl, Nat.le_of_ble_eq_true rfl, Nat.le_of_ble_eq_true rfl⟩ rfl (c_Mod_need (by decide)) ?_
          rintro v1 w9 ⟨hw9, ⟨hv1, hg1⟩ | ⟨hv1, hg1, hg2⟩ | ⟨hv1, hg1, hg2⟩⟩
          · skip
            rw [hv1, hw9]
            clear hv1 hw9 v1 w9
            dsimp only [Option.toList, List.cons_append, List.nil_append, List.append_nil]
            refine wp_istore_n (pc' := 12) rfl rfl (Nat.le_of_ble_eq_true rfl) rfl ?_
            dsimp only [lset, lset2, List.set, List.getElem?_cons_zero, List.getElem?_cons_succ]
            refine wp_iload_n (pc' := 13) rfl rfl rfl ?_
            refine wp_if_ge (pc' := 16) (pt := 18) rfl rfl rfl (fun q_190 => absurd q_190 (by decide)) (fun q_190 => ?_)
            refine wp_iload_n (pc' := 17) rfl rfl rfl ?_
            refine wp_ret rfl rfl rfl ?_
            first
            | (exfalso; omega)
            | exact ⟨rfl, rfl, hI⟩
          · skip
            rw [hv1, hw9]
            clear hv1 hw9 v1 w9
            dsimp only [Option.toList, List.cons_append, List.nil_append, List.append_nil]
            refine wp_istore_n (pc' := 12) rfl rfl (Nat.le_of_ble_eq_true rfl) rfl ?_
            dsimp only [lset, lset2, List.set, List.getElem?_cons_zero, List.getElem?_cons_succ]
            refine wp_iload_n (pc' := 13) rfl rfl rfl ?_
            refine wp_if_ge (pc' := 16) (pt := 18) rfl rfl rfl (fun q_191 => absurd q_191 (by decide)) (fun q_191 => ?_)
            refine wp_iload_n (pc' := 17) rfl rfl rfl ?_
            refine wp_ret rfl rfl rfl ?_
            first
            | (exfalso; omega)
            | exact ⟨rfl, rfl, hI⟩
          · skip
            rw [hv1, hw9]
            clear hv1 hw9 v1 w9
            dsimp only [Option.toList, List.cons_append, List.nil_append, List.append_nil]
            refine wp_istore_n (pc' := 12) rfl rfl (Nat.le_of_ble_eq_true rfl) rfl ?_
            dsimp only [lset, lset2, List.set, List.getElem?_cons_zero, List.getElem?_cons_succ]
            refine wp_iload_n (pc' := 13) rfl rfl rfl ?_
            refine wp_if_ge (pc' := 16) (pt := 18) rfl rfl rfl (fun q_192 => ?_) (fun q_192 => absurd (by decide) q_192)
            have hml := hm1.1.mul
            refine wp_aload_n (pc' := 19) rfl rfl rfl (by decide) ?_
            refine wp_getI (ci := 10) (k0 := 11) (pc' := 22) rfl rfl (by decide) (by first | assumption | rfl) ?_
            refine wp_aload_n (pc' := 23) rfl rfl rfl (by decide) ?_
            refine wp_getI (ci := 10) (k0 := 12) (pc' := 26) rfl rfl (by decide) (by first | assumption | rfl) ?_
            refine wp_imul (pc' := 27) rfl rfl (by first | exact w32_id (by omega) (by omega) | rfl) ?_
            refine wp_istore_n (pc' := 28) rfl rfl (Nat.le_of_ble_eq_true rfl) rfl ?_
            dsimp only [lset, lset2, List.set, List.getElem?_cons_zero, List.getElem?_cons_succ]
            refine wp_iconst (a := 0) (pc' := 29) rfl rfl rfl ?_
            refine wp_istore (pc' := 31) rfl rfl (Nat.le_of_ble_eq_true rfl) rfl ?_
            dsimp only [lset, lset2, List.set, List.getElem?_cons_zero, List.getElem?_cons_succ]
            have hml := hm1.1.mul
            refine l_Mduel1 (w := w1) hT hm1 (fun w2 hS2 hz2 => ?_) (w1 100 11 * w1 100 12).toNat 0 w1 (by decide) (by omega) (Same.rf _ _) (fun j a b => absurd b (by omega))
            refine wp_iload_n (pc' := 57) rfl rfl rfl ?_
            refine wp_iconst (a := 1) (pc' := 58) rfl rfl rfl ?_
            refine wp_isub (pc' := 59) rfl rfl (by first | exact w32_id (by omega) (by omega) | rfl) ?_
            refine wp_istore (pc' := 61) rfl rfl (Nat.le_of_ble_eq_true rfl) rfl ?_
            dsimp only [lset, lset2, List.set, List.getElem?_cons_zero, List.getElem?_cons_succ]
            refine (l_Mduel5 (w := w1) hT hm1 hx1 (by omega) n.toNat 0 _ w2 _ _ _ _ (by omega) (by omega) hS2 hz2).mono (fun v w3 hq => ?_)
            refine ⟨?_, hq.2 (-2) (by decide), hI.query (w' := w3) (hQ1.tr (qry (hq.2.F []) (by decide) (by decide))) ?_⟩
            · rw [hq.1, g111, g121, g101, g71, g81, g91, m0]
              refine congrArg (fun z => some (vI z)) (dlv_congr hpr.1.1 (fun j _ => ?_) n.toNat (w 3 3) hpr.2.2.1)
              exact worth_congr (fun i a b => hpr.2.2.2.2 i a b)
            · rw [hq.2 0 (by decide), hq.2 100 (by decide), hS1 0 (by decide), hS1 100 (by decide)]
              exact hITo
    · skip
      refine wp_iconst (a := -1) (pc' := 11) rfl rfl rfl ?_
      refine wp_ret rfl rfl rfl ?_
      refine ⟨_, rfl, ?_, ?_⟩
      · rfl
      refine wp_aload_n (pc' := 1) rfl rfl rfl (by decide) ?_
      refine wp_iload_n (pc' := 2) rfl rfl rfl ?_
      refine wp_iconst (a := 0) (pc' := 3) rfl rfl rfl ?_
      refine wp_bipush (a := 6) (pc' := 5) rfl rfl rfl ?_
      refine wp_call (pc' := 8) rfl rfl rfl rfl rfl ⟨Nat.le_of_ble_eq_true rfl, Nat.le_of_ble_eq_true rfl, Nat.le_of_ble_eq_true rfl, Nat.le_of_ble_eq_true rfl, Nat.le_of_ble_eq_true rfl⟩ rfl (c_Mod_in) ?_
      rintro v1 w9 ⟨hw9, ⟨hv1, hin⟩ | ⟨hv1, hin⟩⟩
      · skip
        rw [hv1, hw9]
        clear hv1 hw9 v1 w9
        dsimp only [Option.toList, List.cons_append, List.nil_append, List.append_nil]
        refine wp_call (pc' := 11) rfl rfl rfl rfl rfl ⟨Nat.le_of_ble_eq_true rfl, Nat.le_of_ble_eq_true rfl, Nat.le_of_ble_eq_true rfl, Nat.le_of_ble_eq_true rfl, Nat.le_of_ble_eq_true rfl⟩ rfl (c_Mod_need (by decide)) ?_
        rintro v1 w9 ⟨hw9, ⟨hv1, hg1⟩ | ⟨hv1, hg1, hg2⟩ | ⟨hv1, hg1, hg2⟩⟩
        · skip
          rw [hv1, hw9]
          clear hv1 hw9 v1 w9
          dsimp only [Option.toList, List.cons_append, List.nil_append, List.append_nil]
          refine wp_istore_n (pc' := 12) rfl rfl (Nat.le_of_ble_eq_true rfl) rfl ?_
          dsimp only [lset, lset2, List.set, List.getElem?_cons_zero, List.getElem?_cons_succ]
          refine wp_iload_n (pc' := 13) rfl rfl rfl ?_
          refine wp_if_ge (pc' := 16) (pt := 18) rfl rfl rfl (fun q_263 => absurd q_263 (by decide)) (fun q_263 => ?_)
          refine wp_iload_n (pc' := 17) rfl rfl rfl ?_
          refine wp_ret rfl rfl rfl ?_
          first
          | (exfalso; omega)
          | exact ⟨rfl, rfl, hI⟩
        · skip
          rw [hv1, hw9]
          clear hv1 hw9 v1 w9
          dsimp only [Option.toList, List.cons_append, List.nil_append, List.append_nil]
          refine wp_istore_n (pc' := 12) rfl rfl (Nat.le_of_ble_eq_true rfl) rfl ?_
          dsimp only [lset, lset2, List.set, List.getElem?_cons_zero, List.getElem?_cons_succ]
          refine wp_iload_n (pc' := 13) rfl rfl rfl ?_
          refine wp_if_ge (pc' := 16) (pt := 18) rfl rfl rfl (fun q_264 => absurd q_264 (by decide)) (fun q_264 => ?_)
          refine wp_iload_n (pc' := 17) rfl rfl rfl ?_
          refine wp_ret rfl rfl rfl ?_
          first
          | (exfalso; omega)
          | exact ⟨rfl, rfl, hI⟩
        · skip
          rw [hv1, hw9]
          clear hv1 hw9 v1 w9
          dsimp only [Option.toList, List.cons_append, List.nil_append, List.append_nil]
          refine wp_istore_n (pc' := 12) rfl rfl (Nat.le_of_ble_eq_true rfl) rfl ?_
          dsimp only [lset, lset2, List.set, List.getElem?_cons_zero, List.getElem?_cons_succ]
          refine wp_iload_n (pc' := 13) rfl rfl rfl ?_
          refine wp_if_ge (pc' := 16) (pt := 18) rfl rfl rfl (fun q_265 => ?_) (fun q_265 => absurd (by decide) q_265)
          exfalso; omega
      · skip
        rw [hv1, hw9]
        clear hv1 hw9 v1 w9
        dsimp only [Option.toList, List.cons_append, List.nil_append, List.append_nil]
        refine wp_call (pc' := 11) rfl rfl rfl rfl rfl ⟨Nat.le_of_ble_eq_true rfl, Nat.le_of_ble_eq_true rfl, Nat.le_of_ble_eq_true rfl, Nat.le_of_ble_eq_true rfl, Nat.le_of_ble_eq_true rfl⟩ rfl (c_Mod_need (by decide)) ?_
        rintro v1 w9 ⟨hw9, ⟨hv1, hg1⟩ | ⟨hv1, hg1, hg2⟩ | ⟨hv1, hg1, hg2⟩⟩
        · skip
          rw [hv1, hw9]
          clear hv1 hw9 v1 w9
          dsimp only [Option.toList, List.cons_append, List.nil_append, List.append_nil]
          refine wp_istore_n (pc' := 12) rfl rfl (Nat.le_of_ble_eq_true rfl) rfl ?_
          dsimp only [lset, lset2, List.set, List.getElem?_cons_zero, List.getElem?_cons_succ]
          refine wp_iload_n (pc' := 13) rfl rfl rfl ?_
          refine wp_if_ge (pc' := 16) (pt := 18) rfl rfl rfl (fun q_266 => absurd q_266 (by decide)) (fun q_266 => ?_)
          refine wp_iload_n (pc' := 17) rfl rfl rfl ?_
          refine wp_ret rfl rfl rfl ?_
          first
          | (exfalso; omega)
          | exact ⟨rfl, rfl, hI⟩
        · skip
          rw [hv1, hw9]
          clear hv1 hw9 v1 w9
          dsimp only [Option.toList, List.cons_append, List.nil_append, List.append_nil]
          refine wp_istore_n (pc' := 12) rfl rfl (Nat.le_of_ble_eq_true rfl) rfl ?_
          dsimp only [lset, lset2, List.set, List.getElem?_cons_zero, List.getElem?_cons_succ]
          refine wp_iload_n (pc' := 13) rfl rfl rfl ?_
          refine wp_if_ge (pc' := 16) (pt := 18) rfl rfl rfl (fun q_267 => absurd q_267 (by decide)) (fun q_267 => ?_)
          refine wp_iload_n (pc' := 17) rfl rfl rfl ?_
          refine wp_ret rfl rfl rfl ?_
          first
          | (exfalso; omega)
          | exact ⟨rfl, rfl, hI⟩
        · skip
          rw [hv1, hw9]
          clear hv1 hw9 v1 w9
          dsimp only [Option.toList, List.cons_append, List.nil_append, List.append_nil]
          refine wp_istore_n (pc' := 12) rfl rfl (Nat.le_of_ble_eq_true rfl) rfl ?_
          dsimp only [lset, lset2, List.set, List.getElem?_cons_zero, List.getElem?_cons_succ]
          refine wp_iload_n (pc' := 13) rfl rfl rfl ?_
          refine wp_if_ge (pc' := 16) (pt := 18) rfl rfl rfl (fun q_268 => ?_) (fun q_268 => absurd (by decide) q_268)
          exfalso; omega
