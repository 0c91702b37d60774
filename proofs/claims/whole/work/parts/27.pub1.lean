/-! the public calls, one by one: class, then reference, answers alike, the invariant stands again -/
set_option maxRecDepth 20000 in
set_option maxHeartbeats 4000000 in
theorem p_asked {w : Hp} {d : Nat} (hI : Inv w) : WP SH (d + 9) 116 0 [some (vR 0)] [] w (fun v0 w1 => ∃ a, v0 = some (vI a) ∧ w1 (-2) = w (-2) ∧ WP SH (d + 9) 144 0 [some (vR 100)] [] w1 (fun v2 w2 => v2 = some (vI a) ∧ w2 (-2) = w1 (-2) ∧ Inv w2)) := by
  obtain ⟨hT, hRO, hIF, hITo, hIR, hIT, hIL, hIK⟩ := id hI
  refine wp_aload_n (pc' := 1) rfl rfl rfl (by decide) ?_
  refine wp_getI (ci := 9) (k0 := 14) (pc' := 4) rfl rfl (by decide) (by first | assumption | rfl) ?_
  refine wp_ret rfl rfl rfl ?_
  refine ⟨_, rfl, ?_, ?_⟩
  · rfl
  refine wp_aload_n (pc' := 1) rfl rfl rfl (by decide) ?_
  refine wp_getI (ci := 10) (k0 := 2) (pc' := 4) rfl rfl (by decide) (by first | assumption | rfl) ?_
  refine wp_ret rfl rfl rfl ?_
  exact ⟨by rw [hITo], rfl, hI⟩
set_option maxRecDepth 20000 in
set_option maxHeartbeats 4000000 in
theorem p_finding {w : Hp} {d : Nat} (hI : Inv w) : WP SH (d + 9) 120 0 [some (vR 0)] [] w (fun v0 w1 => ∃ a, v0 = some (vI a) ∧ w1 (-2) = w (-2) ∧ WP SH (d + 9) 141 0 [some (vR 100)] [] w1 (fun v2 w2 => v2 = some (vI a) ∧ w2 (-2) = w1 (-2) ∧ Inv w2)) := by
  obtain ⟨hT, hRO, hIF, hITo, hIR, hIT, hIL, hIK⟩ := id hI
  refine wp_aload_n (pc' := 1) rfl rfl rfl (by decide) ?_
  refine wp_getI (ci := 9) (k0 := 13) (pc' := 4) rfl rfl (by decide) (by first | assumption | rfl) ?_
  refine wp_ret rfl rfl rfl ?_
  refine ⟨_, rfl, ?_, ?_⟩
  · rfl
  refine wp_aload_n (pc' := 1) rfl rfl rfl (by decide) ?_
  refine wp_getI (ci := 10) (k0 := 0) (pc' := 4) rfl rfl (by decide) (by first | assumption | rfl) ?_
  refine wp_ret rfl rfl rfl ?_
  exact ⟨by rw [hIF.1], rfl, hI⟩
set_option maxRecDepth 20000 in
set_option maxHeartbeats 4000000 in
theorem p_upper {w : Hp} {d : Nat} (hI : Inv w) : WP SH (d + 9) 117 0 [some (vR 0)] [] w (fun v0 w1 => ∃ a, v0 = some (vL a) ∧ w1 (-2) = w (-2) ∧ WP SH (d + 9) 146 0 [some (vR 100)] [] w1 (fun v2 w2 => v2 = some (vL a) ∧ w2 (-2) = w1 (-2) ∧ Inv w2)) := by
  obtain ⟨hT, hRO, hIF, hITo, hIR, hIT, hIL, hIK⟩ := id hI
  refine wp_aload_n (pc' := 1) rfl rfl rfl (by decide) ?_
  refine wp_getR (r' := 50) (ci := 9) (k0 := 11) (pc' := 4) rfl rfl (by decide) (by first | assumption | rfl) (hT.get 11 rfl) ?_
  refine wp_getL (ci := 1) (k0 := 0) (pc' := 7) rfl rfl (by decide) (by first | assumption | rfl) ?_
  refine wp_ret rfl rfl rfl ?_
  refine ⟨_, rfl, ?_, ?_⟩
  · rfl
  refine wp_aload_n (pc' := 1) rfl rfl rfl (by decide) ?_
  refine wp_getL (ci := 10) (k0 := 3) (pc' := 4) rfl rfl (by decide) (by first | assumption | rfl) ?_
  refine wp_ret rfl rfl rfl ?_
  exact ⟨by rw [hIF.2.2.1], rfl, hI⟩
set_option maxRecDepth 20000 in
set_option maxHeartbeats 4000000 in
theorem p_lower {w : Hp} {d : Nat} (hI : Inv w) : WP SH (d + 9) 118 0 [some (vR 0)] [] w (fun v0 w1 => ∃ a, v0 = some (vL a) ∧ w1 (-2) = w (-2) ∧ WP SH (d + 9) 147 0 [some (vR 100)] [] w1 (fun v2 w2 => v2 = some (vL a) ∧ w2 (-2) = w1 (-2) ∧ Inv w2)) := by
  obtain ⟨hT, hRO, hIF, hITo, hIR, hIT, hIL, hIK⟩ := id hI
  refine wp_aload_n (pc' := 1) rfl rfl rfl (by decide) ?_
  refine wp_getR (r' := 50) (ci := 9) (k0 := 11) (pc' := 4) rfl rfl (by decide) (by first | assumption | rfl) (hT.get 11 rfl) ?_
  refine wp_getL (ci := 1) (k0 := 1) (pc' := 7) rfl rfl (by decide) (by first | assumption | rfl) ?_
  refine wp_ret rfl rfl rfl ?_
  refine ⟨_, rfl, ?_, ?_⟩
  · rfl
  refine wp_aload_n (pc' := 1) rfl rfl rfl (by decide) ?_
  refine wp_getL (ci := 10) (k0 := 4) (pc' := 4) rfl rfl (by decide) (by first | assumption | rfl) ?_
  refine wp_ret rfl rfl rfl ?_
  exact ⟨by rw [hIF.2.2.2.1], rfl, hI⟩
set_option maxRecDepth 20000 in
set_option maxHeartbeats 4000000 in
theorem p_findings {w : Hp} {d : Nat} {f : Int} (hI : Inv w) : WP SH (d + 9) 121 0 [some (vR 0), some (vI f)] [] w (fun v0 w1 => ∃ a, v0 = some (vI a) ∧ w1 (-2) = w (-2) ∧ WP SH (d + 9) 142 0 [some (vR 100), some (vI f)] [] w1 (fun v2 w2 => v2 = some (vI a) ∧ w2 (-2) = w1 (-2) ∧ Inv w2)) := by
  obtain ⟨hT, hRO, hIF, hITo, hIR, hIT, hIL, hIK⟩ := id hI
  refine wp_iload_n (pc' := 1) rfl rfl rfl ?_
  refine wp_iconst (a := 1) (pc' := 2) rfl rfl rfl ?_
  refine wp_icmp_lt (pc' := 5) (pt := 10) rfl rfl rfl (fun q_1 => ?_) (fun q_1 => ?_)
  · skip
    refine wp_iconst (a := -1) (pc' := 11) rfl rfl rfl ?_
    refine wp_goto (pc' := 20) rfl rfl ?_
    refine wp_ret rfl rfl rfl ?_
    refine ⟨_, rfl, ?_, ?_⟩
    · rfl
    refine wp_iload_n (pc' := 1) rfl rfl rfl ?_
    refine wp_iconst (a := 1) (pc' := 2) rfl rfl rfl ?_
    refine wp_iconst (a := 5) (pc' := 3) rfl rfl rfl ?_
    refine wp_call (pc' := 6) rfl rfl rfl rfl rfl ⟨Nat.le_of_ble_eq_true rfl, Nat.le_of_ble_eq_true rfl, Nat.le_of_ble_eq_true rfl, Nat.le_of_ble_eq_true rfl, Nat.le_of_ble_eq_true rfl⟩ rfl (c_Mod_in) ?_
    rintro v1 w9 ⟨hw9, ⟨hv1, hb1⟩ | ⟨hv1, hb1⟩⟩
    · skip
      rw [hv1, hw9]
      clear hv1 hw9 v1 w9
      dsimp only [Option.toList, List.cons_append, List.nil_append, List.append_nil]
      refine wp_if_eq (pc' := 9) (pt := 18) rfl rfl rfl (fun q_52 => absurd q_52 (by decide)) (fun q_52 => ?_)
      refine wp_aload_n (pc' := 10) rfl rfl rfl (by decide) ?_
      refine wp_getR (r' := 101) (ci := 10) (k0 := 1) (pc' := 13) rfl rfl (by decide) (by first | assumption | rfl) (hT.get 99 rfl) ?_
      refine wp_iload_n (pc' := 14) rfl rfl rfl ?_
      refine wp_iaload (pc' := 15) rfl rfl (by first | assumption | rfl) (by omega) ?_
      refine wp_goto (pc' := 19) rfl rfl ?_
      refine wp_ret rfl rfl rfl ?_
      first | (exfalso; omega) | exact ⟨rfl, rfl, hI⟩ | exact ⟨by rw [hIF.2.1 f (by omega) (by omega)], rfl, hI⟩
    · skip
      rw [hv1, hw9]
      clear hv1 hw9 v1 w9
      dsimp only [Option.toList, List.cons_append, List.nil_append, List.append_nil]
      refine wp_if_eq (pc' := 9) (pt := 18) rfl rfl rfl (fun q_53 => ?_) (fun q_53 => absurd (by decide) q_53)
      refine wp_iconst (a := -1) (pc' := 19) rfl rfl rfl ?_
      refine wp_ret rfl rfl rfl ?_
      first | (exfalso; omega) | exact ⟨rfl, rfl, hI⟩ | exact ⟨by rw [hIF.2.1 f (by omega) (by omega)], rfl, hI⟩
  · skip
    refine wp_iload_n (pc' := 6) rfl rfl rfl ?_
    refine wp_iconst (a := 5) (pc' := 7) rfl rfl rfl ?_
    refine wp_icmp_le (pc' := 10) (pt := 14) rfl rfl rfl (fun q_54 => ?_) (fun q_54 => ?_)
    · skip
      refine wp_aload_n (pc' := 15) rfl rfl rfl (by decide) ?_
      refine wp_getR (r' := 52) (ci := 9) (k0 := 12) (pc' := 18) rfl rfl (by decide) (by first | assumption | rfl) (hT.get 12 rfl) ?_
      refine wp_iload_n (pc' := 19) rfl rfl rfl ?_
      refine wp_iaload (pc' := 20) rfl rfl (by first | assumption | rfl) (by omega) ?_
      refine wp_ret rfl rfl rfl ?_
      refine ⟨_, rfl, ?_, ?_⟩
      · rfl
      refine wp_iload_n (pc' := 1) rfl rfl rfl ?_
      refine wp_iconst (a := 1) (pc' := 2) rfl rfl rfl ?_
      refine wp_iconst (a := 5) (pc' := 3) rfl rfl rfl ?_
      refine wp_call (pc' := 6) rfl rfl rfl rfl rfl ⟨Nat.le_of_ble_eq_true rfl, Nat.le_of_ble_eq_true rfl, Nat.le_of_ble_eq_true rfl, Nat.le_of_ble_eq_true rfl, Nat.le_of_ble_eq_true rfl⟩ rfl (c_Mod_in) ?_
      rintro v1 w9 ⟨hw9, ⟨hv1, hb1⟩ | ⟨hv1, hb1⟩⟩
      · skip
        rw [hv1, hw9]
        clear hv1 hw9 v1 w9
        dsimp only [Option.toList, List.cons_append, List.nil_append, List.append_nil]
        refine wp_if_eq (pc' := 9) (pt := 18) rfl rfl rfl (fun q_105 => absurd q_105 (by decide)) (fun q_105 => ?_)
        refine wp_aload_n (pc' := 10) rfl rfl rfl (by decide) ?_
        refine wp_getR (r' := 101) (ci := 10) (k0 := 1) (pc' := 13) rfl rfl (by decide) (by first | assumption | rfl) (hT.get 99 rfl) ?_
        refine wp_iload_n (pc' := 14) rfl rfl rfl ?_
        refine wp_iaload (pc' := 15) rfl rfl (by first | assumption | rfl) (by omega) ?_
        refine wp_goto (pc' := 19) rfl rfl ?_
        refine wp_ret rfl rfl rfl ?_
        first | (exfalso; omega) | exact ⟨rfl, rfl, hI⟩ | exact ⟨by rw [hIF.2.1 f (by omega) (by omega)], rfl, hI⟩
      · skip
        rw [hv1, hw9]
        clear hv1 hw9 v1 w9
        dsimp only [Option.toList, List.cons_append, List.nil_append, List.append_nil]
        refine wp_if_eq (pc' := 9) (pt := 18) rfl rfl rfl (fun q_106 => ?_) (fun q_106 => absurd (by decide) q_106)
        refine wp_iconst (a := -1) (pc' := 19) rfl rfl rfl ?_
        refine wp_ret rfl rfl rfl ?_
        first | (exfalso; omega) | exact ⟨rfl, rfl, hI⟩ | exact ⟨by rw [hIF.2.1 f (by omega) (by omega)], rfl, hI⟩
    · skip
      refine wp_iconst (a := -1) (pc' := 11) rfl rfl rfl ?_
      refine wp_goto (pc' := 20) rfl rfl ?_
      refine wp_ret rfl rfl rfl ?_
      refine ⟨_, rfl, ?_, ?_⟩
      · rfl
      refine wp_iload_n (pc' := 1) rfl rfl rfl ?_
      refine wp_iconst (a := 1) (pc' := 2) rfl rfl rfl ?_
      refine wp_iconst (a := 5) (pc' := 3) rfl rfl rfl ?_
      refine wp_call (pc' := 6) rfl rfl rfl rfl rfl ⟨Nat.le_of_ble_eq_true rfl, Nat.le_of_ble_eq_true rfl, Nat.le_of_ble_eq_true rfl, Nat.le_of_ble_eq_true rfl, Nat.le_of_ble_eq_true rfl⟩ rfl (c_Mod_in) ?_
      rintro v1 w9 ⟨hw9, ⟨hv1, hb1⟩ | ⟨hv1, hb1⟩⟩
      · skip
        rw [hv1, hw9]
        clear hv1 hw9 v1 w9
        dsimp only [Option.toList, List.cons_append, List.nil_append, List.append_nil]
        refine wp_if_eq (pc' := 9) (pt := 18) rfl rfl rfl (fun q_157 => absurd q_157 (by decide)) (fun q_157 => ?_)
        refine wp_aload_n (pc' := 10) rfl rfl rfl (by decide) ?_
        refine wp_getR (r' := 101) (ci := 10) (k0 := 1) (pc' := 13) rfl rfl (by decide) (by first | assumption | rfl) (hT.get 99 rfl) ?_
        refine wp_iload_n (pc' := 14) rfl rfl rfl ?_
        refine wp_iaload (pc' := 15) rfl rfl (by first | assumption | rfl) (by omega) ?_
        refine wp_goto (pc' := 19) rfl rfl ?_
        refine wp_ret rfl rfl rfl ?_
        first | (exfalso; omega) | exact ⟨rfl, rfl, hI⟩ | exact ⟨by rw [hIF.2.1 f (by omega) (by omega)], rfl, hI⟩
      · skip
        rw [hv1, hw9]
        clear hv1 hw9 v1 w9
        dsimp only [Option.toList, List.cons_append, List.nil_append, List.append_nil]
        refine wp_if_eq (pc' := 9) (pt := 18) rfl rfl rfl (fun q_158 => ?_) (fun q_158 => absurd (by decide) q_158)
        refine wp_iconst (a := -1) (pc' := 19) rfl rfl rfl ?_
        refine wp_ret rfl rfl rfl ?_
        first | (exfalso; omega) | exact ⟨rfl, rfl, hI⟩ | exact ⟨by rw [hIF.2.1 f (by omega) (by omega)], rfl, hI⟩
theorem recv_strip {s : Int} {j : Nat} {as : List PV} (h : shAt SH s = some (0, 7)) (hk : mKind j = 1 ∧ mCls j = 7) : recvOk SH j (vR s :: as) = true := by
  unfold recvOk
  rw [hk.1, hk.2]
  exact decide_eq_true h
theorem Stc.row {w w' : Hp} {r : Int} (h : Stc w) (h0 : 0 ≤ r) (h6 : r < 6) (hs : SameF w w' [54 + 2 * r] [(53 + 2 * r, 1)]) : Stc w' := by
  have : r = 0 ∨ r = 1 ∨ r = 2 ∨ r = 3 ∨ r = 4 ∨ r = 5 := by omega
  rcases this with rfl | rfl | rfl | rfl | rfl | rfl <;> exact h.sameF hs (by decide)
/-- what the rows' calls change -/
theorem Inv.rows {w w' : Hp} (h : Inv w) {r : Int} (h0 : 0 ≤ r) (h6 : r < 6) (hs : SameF w w' [54 + 2 * r, 102, 103] [(53 + 2 * r, 1), (0, 14), (100, 2)]) (ht : w' 0 14 = w' 100 2) (hr : w' (53 + 2 * r) 1 = w' 102 r ∧ (-1 ≤ w' 102 r ∧ w' 102 r ≤ 40) ∧ ∀ j : Int, 0 ≤ j → j < w' 102 r → w' (54 + 2 * r) j = w' 103 (40 * r + j) ∧ I32 (w' 103 (40 * r + j))) (ho : ∀ q : Int, 0 ≤ q → q < 6 → q ≠ r → w' 102 q = w 102 q ∧ ∀ j : Int, 0 ≤ j → j < 40 → w' 103 (40 * q + j) = w 103 (40 * q + j)) : Inv w' := by
  obtain ⟨h1, h2, h3, h4, h5, h6', h7, h8⟩ := h
  have hc : ∀ q : Int, q ≠ 0 → q ≠ 53 + 2 * r → q ≠ 54 + 2 * r → q ≠ 100 → q ≠ 102 → q ≠ 103 → w' q = w q := fun q a b c e f g => hs.cell q (by simp; omega) (fun z hz => by simp at hz; rcases hz with rfl | rfl | rfl <;> (dsimp only; omega))
  have hf1 : ∀ k : Int, k ≠ 14 → w' 0 k = w 0 k := fun k hk => hs 0 k (by simp; omega) (by simp; omega)
  have hf2 : ∀ k : Int, k ≠ 2 → w' 100 k = w 100 k := fun k hk => hs 100 k (by simp; omega) (by simp; omega)
  have hf3 : ∀ k : Int, k ≠ 1 → w' (53 + 2 * r) k = w (53 + 2 * r) k := fun k hk => hs _ k (by simp; omega) (by simp; omega)
  have hls : LandSame w w' := ⟨fun q a b => hc q (by omega) (by omega) (by omega) (by omega) (by omega) (by omega), fun q a b => hc q (by omega) (by omega) (by omega) (by omega) (by omega) (by omega), ⟨hf2 10 (by decide), hf2 11 (by decide), hf2 12 (by decide)⟩, hf2 23 (by decide), hc 107 (by omega) (by omega) (by omega) (by omega) (by omega) (by omega), hc 108 (by omega) (by omega) (by omega) (by omega) (by omega) (by omega), hc 109 (by omega) (by omega) (by omega) (by omega) (by omega) (by omega), hc 114 (by omega) (by omega) (by omega) (by omega) (by omega) (by omega), hc 115 (by omega) (by omega) (by omega) (by omega) (by omega) (by omega), hc 116 (by omega) (by omega) (by omega) (by omega) (by omega) (by omega), hc 117 (by omega) (by omega) (by omega) (by omega) (by omega) (by omega), hc 118 (by omega) (by omega) (by omega) (by omega) (by omega) (by omega)⟩
  refine ⟨fun q hq => ?_, ?_, ?_, ht, ?_, ?_, h7.ls hls, h8.ls hls⟩
  · have hq1 := h1 q hq
    have hz : refTab.all (fun q => decide (((q.1 < 53 ∨ 72 < q.1) ∨ q.2.1 = 0) ∧ (q.1 ≠ 0 ∨ q.2.1 ≠ 14) ∧ (q.1 ≠ 100 ∨ q.2.1 ≠ 2) ∧ q.1 ≠ 102 ∧ q.1 ≠ 103 ∧ (q.1 < 53 ∨ 72 < q.1 ∨ q.1 % 2 = 1))) = true := by decide
    have h9 := of_decide_eq_true (List.all_eq_true.mp hz q hq)
    rw [hs q.1 q.2.1 (by simp; omega) (by simp [Prod.ext_iff]; omega)]
    exact hq1
  · unfold ROw at h2 ⊢
    rw [hc (-3) (by omega) (by omega) (by omega) (by omega) (by omega) (by omega), hc (-4) (by omega) (by omega) (by omega) (by omega) (by omega) (by omega), hc (-5) (by omega) (by omega) (by omega) (by omega) (by omega) (by omega)]
    exact h2
  · unfold IFd at h3 ⊢
    rw [hf1 13 (by decide), hf2 0 (by decide), hf2 3 (by decide), hf2 4 (by decide), hc 52 (by omega) (by omega) (by omega) (by omega) (by omega) (by omega), hc 101 (by omega) (by omega) (by omega) (by omega) (by omega) (by omega), hc 50 (by omega) (by omega) (by omega) (by omega) (by omega) (by omega), hc 31 (by omega) (by omega) (by omega) (by omega) (by omega) (by omega)]
    exact h3
  · intro q hq0 hq6
    by_cases hq : q = r
    · subst hq
      exact hr
    · obtain ⟨a1, a2⟩ := ho q hq0 hq6 hq
      obtain ⟨b1, b2, b3⟩ := h5 q hq0 hq6
      rw [hc (53 + 2 * q) (by omega) (by omega) (by omega) (by omega) (by omega) (by omega), hc (54 + 2 * q) (by omega) (by omega) (by omega) (by omega) (by omega) (by omega), a1]
      exact ⟨b1, b2, fun j x y => by rw [a2 j x (by omega)]; exact b3 j x y⟩
  · intro t ht0 ht4
    rw [hc (65 + 2 * t) (by omega) (by omega) (by omega) (by omega) (by omega) (by omega), hc (66 + 2 * t) (by omega) (by omega) (by omega) (by omega) (by omega) (by omega), hc 105 (by omega) (by omega) (by omega) (by omega) (by omega) (by omega), hc 106 (by omega) (by omega) (by omega) (by omega) (by omega) (by omega)]
    exact h6' t ht0 ht4
