/-! fault -/
theorem bA_congr {T T' : Int → Int} {z p : Int} (h0 : 0 ≤ p) (h : ∀ j : Int, 0 ≤ j → j < z → T j = T' j) : bA T z p = bA T' z p := by
  unfold bA
  split
  · exact h p h0 (by assumption)
  · rfl
theorem hE_congr {T T' : Int → Int} {z q : Int} (h0 : 0 ≤ q) (h : ∀ j : Int, 0 ≤ j → j < z → T j = T' j) : hE T z q = hE T' z q := by
  unfold hE
  rw [bA_congr h0 h, fg_congr (p := q + 1) (by omega) h, fg_congr (p := q + 2) (by omega) h, fg_congr (p := q + 3) (by omega) h, fg_congr (p := q + 4) (by omega) h]
theorem oE_congr {T T' : Int → Int} {z c l p : Int} (h0 : 0 ≤ p) (h : ∀ j : Int, 0 ≤ j → j < z → T j = T' j) : oE T z c l p = oE T' z c l p := by
  unfold oE
  rw [bA_congr h0 h, fg_congr (p := p + 1) (by omega) h, fg_congr (p := p + 2) (by omega) h, fg_congr (p := p + 3) (by omega) h]
theorem rn_congr {T T' : Int → Int} {z c l : Int} (h : ∀ j : Int, 0 ≤ j → j < z → T j = T' j) : ∀ (k : Nat) (p n : Int) (D : Int → Int × Int × Int × Int), 0 ≤ p → rn T z c l k p n D = rn T' z c l k p n D := by
  intro k
  induction k with
  | zero => intro p n D _; rfl
  | succ k ih =>
    intro p n D h0
    unfold rn
    rw [bA_congr h0 h, oE_congr h0 h, ih (p + 1) n D (by omega), ih (p + 4) (n + 1) _ (by omega), fg_congr (p := p + 1) (by omega) h, fg_congr (p := p + 2) (by omega) h, fg_congr (p := p + 3) (by omega) h]
theorem SkP.congr {T T' : Int → Int} {z p q : Int} (h0 : 0 ≤ p) (h : ∀ j : Int, 0 ≤ j → j < z → T j = T' j) (hs : SkP T z p q) : SkP T' z p q := by
  obtain ⟨a, b, c, e⟩ := hs
  refine ⟨a, b, fun i i0 i1 => by rw [← h i (by omega) (by omega)]; exact c i i0 i1, ?_⟩
  rcases e with e | e
  · exact Or.inl e
  · exact Or.inr ⟨e.1, by rw [← h q (by omega) e.1]; exact e.2⟩
set_option maxRecDepth 20000 in
set_option maxHeartbeats 4000000 in
theorem p_fault {w : Hp} {d : Nat} {t : Int} (hI : Inv w) : WP SH (d + 9) 88 0 [some (vR 0), some (vI t)] [] w (fun v0 w1 => ∃ a, v0 = some (vI a) ∧ w1 (-2) = w (-2) ∧ WP SH (d + 9) 165 0 [some (vR 100), some (vI t)] [] w1 (fun v2 w2 => v2 = some (vI a) ∧ w2 (-2) = w1 (-2) ∧ Inv w2)) := by
  obtain ⟨hT, hRO, hIF, hITo, hIR, hIT, hIL, hIK⟩ := id hI
  obtain ⟨hn25, b11, b12, b10, hn6, hem, m0, m1, m2, m23, hyr, hdd, hpre⟩ := hI.base
  have hmm : w 100 11 * w 100 12 = w 3 0 * w 3 1 := by rw [b11, b12]
  refine wp_iload_n (pc' := 1) rfl rfl rfl ?_
  refine wp_call (pc' := 4) rfl rfl rfl rfl rfl ⟨Nat.le_of_ble_eq_true rfl, Nat.le_of_ble_eq_true rfl, Nat.le_of_ble_eq_true rfl, Nat.le_of_ble_eq_true rfl, Nat.le_of_ble_eq_true rfl⟩ rfl (c_VH_isText) ?_
  rintro v1 w9 ⟨hw9, ⟨hv1, hbr⟩ | ⟨hv1, hbr⟩⟩
  · skip
    rw [hv1, hw9]
    clear hv1 hw9 v1 w9
    have hstr := strip_text hT hbr.1 hbr.2
    have hs7 := hstr.1.1
    have hitt := hIT t hbr.1 hbr.2
    dsimp only [Option.toList, List.cons_append, List.nil_append, List.append_nil]
    refine wp_if_ne (pc' := 7) (pt := 9) rfl rfl rfl (fun q_1 => ?_) (fun q_1 => absurd (by decide) q_1)
    refine wp_aload_n (pc' := 10) rfl rfl rfl (by decide) ?_
    refine wp_getR (r' := 2) (ci := 9) (k0 := 1) (pc' := 13) rfl rfl (by decide) (by first | assumption | rfl) (hT.get 1 rfl) ?_
    refine wp_iload_n (pc' := 14) rfl rfl rfl ?_
    refine wp_aaload (r' := (65 + 2 * t)) (pc' := 15) rfl rfl (by first | assumption | rfl) rfl (by omega) (hstr.2) ?_
    refine wp_call (pc' := 18) rfl rfl rfl rfl rfl ⟨Nat.le_of_ble_eq_true rfl, Nat.le_of_ble_eq_true rfl, Nat.le_of_ble_eq_true rfl, Nat.le_of_ble_eq_true rfl, Nat.le_of_ble_eq_true rfl⟩ (recv_strip hs7 (by decide)) (c_Strip_isMissing hstr.1) ?_
    rintro v1 w9 ⟨hw9, ⟨hv1, hms⟩ | ⟨hv1, hms⟩⟩
    · skip
      rw [hv1, hw9]
      clear hv1 hw9 v1 w9
      dsimp only [Option.toList, List.cons_append, List.nil_append, List.append_nil]
      refine wp_if_eq (pc' := 21) (pt := 27) rfl rfl rfl (fun q_2 => absurd q_2 (by decide)) (fun q_2 => ?_)
      refine wp_aload_n (pc' := 22) rfl rfl rfl (by decide) ?_
      refine wp_iconst (a := 1) (pc' := 23) rfl rfl rfl ?_
      refine wp_call (pc' := 26) rfl rfl rfl rfl rfl ⟨Nat.le_of_ble_eq_true rfl, Nat.le_of_ble_eq_true rfl, Nat.le_of_ble_eq_true rfl, Nat.le_of_ble_eq_true rfl, Nat.le_of_ble_eq_true rfl⟩ rfl (c_VH_refuse hT (by decide)) ?_
      intro v1 w9 hq1
      rw [hq1.1, hq1.2]
      clear hq1 v1 w9
      dsimp only [Option.toList, List.cons_append, List.nil_append, List.append_nil]
      refine wp_ret rfl rfl rfl ?_
      refine ⟨_, rfl, ?_, ?_⟩
      · rw [up_ne (by decide), up_ne (by decide)]
      change WP SH _ _ _ _ _ (refW w 1) _
      have hT := refW_stc (f := 1) hT
      have e5 : refW w 1 105 t = w 105 t := by rw [refW_ne (by decide) (by decide)]
      refine wp_iload_n (pc' := 1) rfl rfl rfl ?_
      refine wp_call (pc' := 4) rfl rfl rfl rfl rfl ⟨Nat.le_of_ble_eq_true rfl, Nat.le_of_ble_eq_true rfl, Nat.le_of_ble_eq_true rfl, Nat.le_of_ble_eq_true rfl, Nat.le_of_ble_eq_true rfl⟩ rfl (c_Mod_isText) ?_
      rintro v1 w9 ⟨hw9, ⟨hv1, hc1⟩ | ⟨hv1, hc1⟩⟩
      · skip
        rw [hv1, hw9]
        clear hv1 hw9 v1 w9
        dsimp only [Option.toList, List.cons_append, List.nil_append, List.append_nil]
        refine wp_if_ne (pc' := 7) (pt := 9) rfl rfl rfl (fun q_53 => ?_) (fun q_53 => absurd (by decide) q_53)
        refine wp_aload_n (pc' := 10) rfl rfl rfl (by decide) ?_
        refine wp_getR (r' := 105) (ci := 10) (k0 := 8) (pc' := 13) rfl rfl (by decide) (by first | assumption | rfl) (hT.get 103 rfl) ?_
        refine wp_iload_n (pc' := 14) rfl rfl rfl ?_
        refine wp_iaload (pc' := 15) rfl rfl (by first | assumption | rfl) (by omega) ?_
        refine wp_if_ge (pc' := 18) (pt := 26) rfl rfl rfl (fun q_54 => ?_) (fun q_54 => ?_)
        · skip
          exfalso; omega
        · skip
          refine wp_aload_n (pc' := 19) rfl rfl rfl (by decide) ?_
          refine wp_iconst (a := 1) (pc' := 20) rfl rfl rfl ?_
          refine wp_call (pc' := 23) rfl rfl rfl rfl rfl ⟨Nat.le_of_ble_eq_true rfl, Nat.le_of_ble_eq_true rfl, Nat.le_of_ble_eq_true rfl, Nat.le_of_ble_eq_true rfl, Nat.le_of_ble_eq_true rfl⟩ rfl (c_Mod_meets hT (by decide)) ?_
          intro v1 w9 hq1
          rw [hq1.1, hq1.2]
          clear hq1 v1 w9
          dsimp only [Option.toList, List.cons_append, List.nil_append, List.append_nil]
          refine wp_goto (pc' := 31) rfl rfl ?_
          refine wp_ret rfl rfl rfl ?_
          first
          | (exfalso; omega)
          | exact ⟨rfl, rfl, hI⟩
          | exact ⟨rfl, by rw [up_ne (by decide), up_ne (by decide)]; rfl, refW_inv hI (by decide)⟩
      · skip
        rw [hv1, hw9]
        clear hv1 hw9 v1 w9
        dsimp only [Option.toList, List.cons_append, List.nil_append, List.append_nil]
        refine wp_if_ne (pc' := 7) (pt := 9) rfl rfl rfl (fun q_55 => absurd q_55 (by decide)) (fun q_55 => ?_)
        exfalso; omega
    · skip
      rw [hv1, hw9]
      clear hv1 hw9 v1 w9
      have hzz : 0 ≤ w (65 + 2 * t) 1 ∧ w (65 + 2 * t) 1 ≤ 60 := by omega
      dsimp only [Option.toList, List.cons_append, List.nil_append, List.append_nil]
      refine wp_if_eq (pc' := 21) (pt := 27) rfl rfl rfl (fun q_56 => ?_) (fun q_56 => absurd (by decide) q_56)
      refine wp_aload_n (pc' := 28) rfl rfl rfl (by decide) ?_
      refine wp_getR (r' := 22) (ci := 9) (k0 := 5) (pc' := 31) rfl rfl (by decide) (by first | assumption | rfl) (hT.get 5 rfl) ?_
      refine wp_aload_n (pc' := 32) rfl rfl rfl (by decide) ?_
      refine wp_getR (r' := 2) (ci := 9) (k0 := 1) (pc' := 35) rfl rfl (by decide) (by first | assumption | rfl) (hT.get 1 rfl) ?_
      refine wp_iload_n (pc' := 36) rfl rfl rfl ?_
      refine wp_aaload (r' := (65 + 2 * t)) (pc' := 37) rfl rfl (by first | assumption | rfl) rfl (by omega) (hstr.2) ?_
      refine wp_aload_n (pc' := 38) rfl rfl rfl (by decide) ?_
      refine wp_getR (r' := 12) (ci := 9) (k0 := 3) (pc' := 41) rfl rfl (by decide) (by first | assumption | rfl) (hT.get 3 rfl) ?_
      refine wp_call (pc' := 44) rfl rfl rfl rfl rfl ⟨Nat.le_of_ble_eq_true rfl, Nat.le_of_ble_eq_true rfl, Nat.le_of_ble_eq_true rfl, Nat.le_of_ble_eq_true rfl, Nat.le_of_ble_eq_true rfl⟩ rfl (c_Rd_readLand hT hRO hstr.1 ⟨by omega, by omega⟩ rfl hzz (fun j a b => by have h9 := hitt.2.2 j a (by omega); rw [h9.1]; exact h9.2)) ?_
      rintro v1 w1 ⟨q, hq, hS1, ⟨hv1, hlt⟩ | ⟨hv1, heq, hres⟩⟩
      · skip
        rw [hv1]
        clear hv1 v1
        have hQ1 : SameF w w1 LQ FQ := qry hS1 (by decide) (by decide)
        have hT1 : Stc w1 := hT.sameF hQ1 (by decide)
        dsimp only [Option.toList, List.cons_append, List.nil_append, List.append_nil]
        refine wp_ret rfl rfl rfl ?_
        refine ⟨_, rfl, ?_, ?_⟩
        · exact hQ1.cell (-2) (by decide) (by decide)
        have hT := hT1
        have e5 : w1 105 = w 105 := hQ1.cell 105 (by decide) (by decide)
        have e5t : w1 105 t = w 105 t := by rw [e5]
        have e6 : w1 106 = w 106 := hQ1.cell 106 (by decide) (by decide)
        have hz0 : w1 105 t = w (65 + 2 * t) 1 := by rw [e5]; exact hitt.1.symm
        have hX1 : Tx w1 t (w (65 + 2 * t) 1) := ⟨hbr, hz0, hzz, fun j a b => by unfold mT; rw [e6]; exact (hitt.2.2 j a (by omega)).2⟩
        have hTT : ∀ j : Int, 0 ≤ j → j < w (65 + 2 * t) 1 → w (66 + 2 * t) j = mT w1 t j := fun j a b => by unfold mT; rw [e6]; exact (hitt.2.2 j a (by omega)).1
        have hq0 := hq.1
        have hhE := hE_congr hq0 hTT
        have hFf : fg (w (66 + 2 * t)) (w (65 + 2 * t) 1) (q + 1) 3 5 = fg (mT w1 t) (w (65 + 2 * t) 1) (q + 1) 3 5 := fg_congr (by omega) hTT
        have hFg : fg (w (66 + 2 * t)) (w (65 + 2 * t) 1) (q + 2) 3 5 = fg (mT w1 t) (w (65 + 2 * t) 1) (q + 2) 3 5 := fg_congr (by omega) hTT
        have hRRe : RR (w (66 + 2 * t)) (w (65 + 2 * t) 1) (fg (w (66 + 2 * t)) (w (65 + 2 * t) 1) (q + 1) 3 5) (fg (w (66 + 2 * t)) (w (65 + 2 * t) 1) (q + 2) 3 5) (q + 5) 0 D0 = RR (mT w1 t) (w (65 + 2 * t) 1) (fg (mT w1 t) (w (65 + 2 * t) 1) (q + 1) 3 5) (fg (mT w1 t) (w (65 + 2 * t) 1) (q + 2) 3 5) (q + 5) 0 D0 := by
          rw [hFf, hFg]
          exact rn_congr hTT 61 (q + 5) 0 D0 (by omega)
        refine wp_iload_n (pc' := 1) rfl rfl rfl ?_
        refine wp_call (pc' := 4) rfl rfl rfl rfl rfl ⟨Nat.le_of_ble_eq_true rfl, Nat.le_of_ble_eq_true rfl, Nat.le_of_ble_eq_true rfl, Nat.le_of_ble_eq_true rfl, Nat.le_of_ble_eq_true rfl⟩ rfl (c_Mod_isText) ?_
        rintro v1 w9 ⟨hw9, ⟨hv1, hc1⟩ | ⟨hv1, hc1⟩⟩
        · skip
          rw [hv1, hw9]
          clear hv1 hw9 v1 w9
          dsimp only [Option.toList, List.cons_append, List.nil_append, List.append_nil]
          refine wp_if_ne (pc' := 7) (pt := 9) rfl rfl rfl (fun q_107 => ?_) (fun q_107 => absurd (by decide) q_107)
          refine wp_aload_n (pc' := 10) rfl rfl rfl (by decide) ?_
          refine wp_getR (r' := 105) (ci := 10) (k0 := 8) (pc' := 13) rfl rfl (by decide) (by first | assumption | rfl) (hT.get 103 rfl) ?_
          refine wp_iload_n (pc' := 14) rfl rfl rfl ?_
          refine wp_iaload (pc' := 15) rfl rfl (by first | assumption | rfl) (by omega) ?_
          refine wp_if_ge (pc' := 18) (pt := 26) rfl rfl rfl (fun q_108 => ?_) (fun q_108 => ?_)
          · skip
            refine wp_aload_n (pc' := 27) rfl rfl rfl (by decide) ?_
            refine wp_iload_n (pc' := 28) rfl rfl rfl ?_
            refine wp_call (pc' := 31) rfl rfl rfl rfl rfl ⟨Nat.le_of_ble_eq_true rfl, Nat.le_of_ble_eq_true rfl, Nat.le_of_ble_eq_true rfl, Nat.le_of_ble_eq_true rfl, Nat.le_of_ble_eq_true rfl⟩ rfl (c_Mod_faultOf hT hX1) ?_
            rintro v2 w2 ⟨q2, hq2, hS2, ⟨hv2, hlt2⟩ | ⟨hv2, heq2, hres2⟩⟩
            · skip
              rw [hv2]
              clear hv2 v2
              obtain rfl : q = q2 := (hq.congr (Int.le_refl 0) hTT).eq hq2
              dsimp only [Option.toList, List.cons_append, List.nil_append, List.append_nil]
              refine wp_ret rfl rfl rfl ?_
              have hinv : Inv w2 := hI.query (hQ1.tr (qry hS2 (by decide) (by decide))) (by rw [hS2.cell 0 (by decide) (by decide), hS2 100 2 (by decide) (by decide), hS1.cell 0 (by decide) (by decide), hS1.cell 100 (by decide) (by decide)]; exact hITo)
              exact ⟨by first | rw [hhE] | rw [hRRe], hS2.cell (-2) (by decide) (by decide), hinv⟩
            · skip
              exfalso
              obtain rfl : q = q2 := (hq.congr (Int.le_refl 0) hTT).eq hq2
              omega
          · skip
            exfalso; omega
        · skip
          rw [hv1, hw9]
          clear hv1 hw9 v1 w9
          dsimp only [Option.toList, List.cons_append, List.nil_append, List.append_nil]
          refine wp_if_ne (pc' := 7) (pt := 9) rfl rfl rfl (fun q_109 => absurd q_109 (by decide)) (fun q_109 => ?_)
          exfalso; omega
      · skip
        rw [hv1]
        clear hv1 v1
        have hQ1 : SameF w w1 LQ FQ := qry hS1 (by decide) (by decide)
        have hT1 : Stc w1 := hT.sameF hQ1 (by decide)
        dsimp only [Option.toList, List.cons_append, List.nil_append, List.append_nil]
        refine wp_ret rfl rfl rfl ?_
        refine ⟨_, rfl, ?_, ?_⟩
        · exact hQ1.cell (-2) (by decide) (by decide)
        have hT := hT1
        have e5 : w1 105 = w 105 := hQ1.cell 105 (by decide) (by decide)
        have e5t : w1 105 t = w 105 t := by rw [e5]
        have e6 : w1 106 = w 106 := hQ1.cell 106 (by decide) (by decide)
        have hz0 : w1 105 t = w (65 + 2 * t) 1 := by rw [e5]; exact hitt.1.symm
        have hX1 : Tx w1 t (w (65 + 2 * t) 1) := ⟨hbr, hz0, hzz, fun j a b => by unfold mT; rw [e6]; exact (hitt.2.2 j a (by omega)).2⟩
        have hTT : ∀ j : Int, 0 ≤ j → j < w (65 + 2 * t) 1 → w (66 + 2 * t) j = mT w1 t j := fun j a b => by unfold mT; rw [e6]; exact (hitt.2.2 j a (by omega)).1
        have hq0 := hq.1
        have hhE := hE_congr hq0 hTT
        have hFf : fg (w (66 + 2 * t)) (w (65 + 2 * t) 1) (q + 1) 3 5 = fg (mT w1 t) (w (65 + 2 * t) 1) (q + 1) 3 5 := fg_congr (by omega) hTT
        have hFg : fg (w (66 + 2 * t)) (w (65 + 2 * t) 1) (q + 2) 3 5 = fg (mT w1 t) (w (65 + 2 * t) 1) (q + 2) 3 5 := fg_congr (by omega) hTT
        have hRRe : RR (w (66 + 2 * t)) (w (65 + 2 * t) 1) (fg (w (66 + 2 * t)) (w (65 + 2 * t) 1) (q + 1) 3 5) (fg (w (66 + 2 * t)) (w (65 + 2 * t) 1) (q + 2) 3 5) (q + 5) 0 D0 = RR (mT w1 t) (w (65 + 2 * t) 1) (fg (mT w1 t) (w (65 + 2 * t) 1) (q + 1) 3 5) (fg (mT w1 t) (w (65 + 2 * t) 1) (q + 2) 3 5) (q + 5) 0 D0 := by
          rw [hFf, hFg]
          exact rn_congr hTT 61 (q + 5) 0 D0 (by omega)
        refine wp_iload_n (pc' := 1) rfl rfl rfl ?_
        refine wp_call (pc' := 4) rfl rfl rfl rfl rfl ⟨Nat.le_of_ble_eq_true rfl, Nat.le_of_ble_eq_true rfl, Nat.le_of_ble_eq_true rfl, Nat.le_of_ble_eq_true rfl, Nat.le_of_ble_eq_true rfl⟩ rfl (c_Mod_isText) ?_
        rintro v1 w9 ⟨hw9, ⟨hv1, hc1⟩ | ⟨hv1, hc1⟩⟩
        · skip
          rw [hv1, hw9]
          clear hv1 hw9 v1 w9
          dsimp only [Option.toList, List.cons_append, List.nil_append, List.append_nil]
          refine wp_if_ne (pc' := 7) (pt := 9) rfl rfl rfl (fun q_160 => ?_) (fun q_160 => absurd (by decide) q_160)
          refine wp_aload_n (pc' := 10) rfl rfl rfl (by decide) ?_
          refine wp_getR (r' := 105) (ci := 10) (k0 := 8) (pc' := 13) rfl rfl (by decide) (by first | assumption | rfl) (hT.get 103 rfl) ?_
          refine wp_iload_n (pc' := 14) rfl rfl rfl ?_
          refine wp_iaload (pc' := 15) rfl rfl (by first | assumption | rfl) (by omega) ?_
          refine wp_if_ge (pc' := 18) (pt := 26) rfl rfl rfl (fun q_161 => ?_) (fun q_161 => ?_)
          · skip
            refine wp_aload_n (pc' := 27) rfl rfl rfl (by decide) ?_
            refine wp_iload_n (pc' := 28) rfl rfl rfl ?_
            refine wp_call (pc' := 31) rfl rfl rfl rfl rfl ⟨Nat.le_of_ble_eq_true rfl, Nat.le_of_ble_eq_true rfl, Nat.le_of_ble_eq_true rfl, Nat.le_of_ble_eq_true rfl, Nat.le_of_ble_eq_true rfl⟩ rfl (c_Mod_faultOf hT hX1) ?_
            rintro v2 w2 ⟨q2, hq2, hS2, ⟨hv2, hlt2⟩ | ⟨hv2, heq2, hres2⟩⟩
            · skip
              exfalso
              obtain rfl : q = q2 := (hq.congr (Int.le_refl 0) hTT).eq hq2
              omega
            · skip
              rw [hv2]
              clear hv2 v2
              obtain rfl : q = q2 := (hq.congr (Int.le_refl 0) hTT).eq hq2
              dsimp only [Option.toList, List.cons_append, List.nil_append, List.append_nil]
              refine wp_ret rfl rfl rfl ?_
              have hinv : Inv w2 := hI.query (hQ1.tr (qry hS2 (by decide) (by decide))) (by rw [hS2.cell 0 (by decide) (by decide), hS2 100 2 (by decide) (by decide), hS1.cell 0 (by decide) (by decide), hS1.cell 100 (by decide) (by decide)]; exact hITo)
              exact ⟨by first | rw [hhE] | rw [hRRe], hS2.cell (-2) (by decide) (by decide), hinv⟩
          · skip
            exfalso; omega
        · skip
          rw [hv1, hw9]
          clear hv1 hw9 v1 w9
          dsimp only [Option.toList, List.cons_append, List.nil_append, List.append_nil]
          refine wp_if_ne (pc' := 7) (pt := 9) rfl rfl rfl (fun q_162 => absurd q_162 (by decide)) (fun q_162 => ?_)
          exfalso; omega
  · skip
    rw [hv1, hw9]
    clear hv1 hw9 v1 w9
    dsimp only [Option.toList, List.cons_append, List.nil_append, List.append_nil]
    refine wp_if_ne (pc' := 7) (pt := 9) rfl rfl rfl (fun q_163 => absurd q_163 (by decide)) (fun q_163 => ?_)
    refine wp_iconst (a := -1) (pc' := 8) rfl rfl rfl ?_
    refine wp_ret rfl rfl rfl ?_
    refine ⟨_, rfl, ?_, ?_⟩
    · rfl
    refine wp_iload_n (pc' := 1) rfl rfl rfl ?_
    refine wp_call (pc' := 4) rfl rfl rfl rfl rfl ⟨Nat.le_of_ble_eq_true rfl, Nat.le_of_ble_eq_true rfl, Nat.le_of_ble_eq_true rfl, Nat.le_of_ble_eq_true rfl, Nat.le_of_ble_eq_true rfl⟩ rfl (c_Mod_isText) ?_
    rintro v1 w9 ⟨hw9, ⟨hv1, hc1⟩ | ⟨hv1, hc1⟩⟩
    · skip
      rw [hv1, hw9]
      clear hv1 hw9 v1 w9
      dsimp only [Option.toList, List.cons_append, List.nil_append, List.append_nil]
      refine wp_if_ne (pc' := 7) (pt := 9) rfl rfl rfl (fun q_214 => ?_) (fun q_214 => absurd (by decide) q_214)
      exfalso; omega
    · skip
      rw [hv1, hw9]
      clear hv1 hw9 v1 w9
      dsimp only [Option.toList, List.cons_append, List.nil_append, List.append_nil]
      refine wp_if_ne (pc' := 7) (pt := 9) rfl rfl rfl (fun q_215 => absurd q_215 (by decide)) (fun q_215 => ?_)
      refine wp_iconst (a := -1) (pc' := 8) rfl rfl rfl ?_
      refine wp_ret rfl rfl rfl ?_
      first
      | (exfalso; omega)
      | exact ⟨rfl, rfl, hI⟩
      | exact ⟨rfl, by rw [up_ne (by decide), up_ne (by decide)]; rfl, refW_inv hI (by decide)⟩
