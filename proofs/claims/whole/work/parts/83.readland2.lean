/-! reading a land: readLand -/
def SkP (T : Int → Int) (z p q : Int) : Prop := p ≤ q ∧ q ≤ z ∧ (∀ i : Int, p ≤ i → i < q → T i = 32) ∧ (q = z ∨ (q < z ∧ T q ≠ 32))
theorem SkP.eq {T : Int → Int} {z p q q' : Int} (h : SkP T z p q) (h' : SkP T z p q') : q = q' := by
  obtain ⟨a1, a2, a3, a4⟩ := h
  obtain ⟨b1, b2, b3, b4⟩ := h'
  by_cases hlt : q < q'
  · have := b3 q a1 hlt
    rcases a4 with a4 | a4
    · omega
    · exact absurd this a4.2
  · by_cases hgt : q' < q
    · have := a3 q' b1 hgt
      rcases b4 with b4 | b4
      · omega
      · exact absurd this b4.2
    · omega
def D0 : Int → Int × Int × Int × Int := fun _ => (0, 0, 0, 0)
def LF : List (Int × Int) := [(12, 0), (12, 1), (12, 2), (12, 3), (12, 4), (12, 5), (12, 6), (22, 0), (22, 1)]
set_option maxRecDepth 20000 in
set_option maxHeartbeats 4000000 in
theorem c_Rd_readLand {w : Hp} {d : Nat} {s pa z : Int} (hT : Stc w) (hr : ROw w) (hst : StripAt w s pa 60) (hst2 : (65 ≤ s ∧ s ≤ 72) ∧ (65 ≤ pa ∧ pa ≤ 72)) (hsz : w s 1 = z) (hz : 0 ≤ z ∧ z ≤ 60) (hby : ∀ j : Int, 0 ≤ j → j < z → -128 ≤ w pa j ∧ w pa j ≤ 127) : WP SH (d + 3) 61 0 [some (vR 22), some (vR s), some (vR 12), none] [] w (fun v w' => ∃ q : Int, SkP (w pa) z 0 q ∧ SameF w w' [13, 14, 15] LF ∧ ((v = some (vI (hE (w pa) z q)) ∧ hE (w pa) z q < q + 5) ∨ (v = some (vI (RR (w pa) z (fg (w pa) z (q + 1) 3 5) (fg (w pa) z (q + 2) 3 5) (q + 5) 0 D0).1) ∧ hE (w pa) z q = q + 5 ∧ (3 ≤ fg (w pa) z (q + 1) 3 5 ∧ fg (w pa) z (q + 1) 3 5 ≤ 5) ∧ (3 ≤ fg (w pa) z (q + 2) 3 5 ∧ fg (w pa) z (q + 2) 3 5 ≤ 5) ∧ (0 ≤ fg (w pa) z (q + 3) 0 (fg (w pa) z (q + 1) 3 5 - 1) ∧ fg (w pa) z (q + 3) 0 (fg (w pa) z (q + 1) 3 5 - 1) ≤ fg (w pa) z (q + 1) 3 5 - 1) ∧ (0 ≤ fg (w pa) z (q + 4) 0 (fg (w pa) z (q + 2) 3 5 - 1) ∧ fg (w pa) z (q + 4) 0 (fg (w pa) z (q + 2) 3 5 - 1) ≤ fg (w pa) z (q + 2) 3 5 - 1) ∧ w' 12 0 = fg (w pa) z (q + 1) 3 5 ∧ w' 12 1 = fg (w pa) z (q + 2) 3 5 ∧ w' 12 2 = (RR (w pa) z (fg (w pa) z (q + 1) 3 5) (fg (w pa) z (q + 2) 3 5) (q + 5) 0 D0).2.1 ∧ w' 12 3 = (fg (w pa) z (q + 1) 3 5) * (fg (w pa) z (q + 4) 0 (fg (w pa) z (q + 2) 3 5 - 1)) + fg (w pa) z (q + 3) 0 (fg (w pa) z (q + 1) 3 5 - 1) ∧ w' 12 4 = 0 ∧ w' 12 5 = 0 ∧ w' 12 6 = 0 ∧ (0 ≤ w' 12 2 ∧ w' 12 2 ≤ 6) ∧ DM w' (fg (w pa) z (q + 1) 3 5) (fg (w pa) z (q + 2) 3 5) (RR (w pa) z (fg (w pa) z (q + 1) 3 5) (fg (w pa) z (q + 2) 3 5) (q + 5) 0 D0).2.2 (w' 12 2)))) := by
  refine wp_aload_n (pc' := 1) rfl rfl rfl (by omega) ?_
  refine wp_aload_n (pc' := 2) rfl rfl rfl (by omega) ?_
  refine wp_putR (ci := 6) (k0 := 0) (pc' := 5) rfl rfl (by decide) (by first | assumption | rfl) ?_
  refine wp_aload_n (pc' := 6) rfl rfl rfl (by omega) ?_
  refine wp_iconst (a := 0) (pc' := 7) rfl rfl rfl ?_
  refine wp_putI (ci := 6) (k0 := 1) (pc' := 10) rfl rfl (by decide) (by first | assumption | rfl) ?_
  have hTa : Stc (up (up w 22 0 s) 22 1 0) := (hT.putF (by decide)).putF (by decide)
  refine wp_aload_n (pc' := 11) rfl rfl rfl (by decide) ?_
  refine wp_call (pc' := 14) rfl rfl rfl rfl rfl ⟨Nat.le_of_ble_eq_true rfl, Nat.le_of_ble_eq_true rfl, Nat.le_of_ble_eq_true rfl, Nat.le_of_ble_eq_true rfl, Nat.le_of_ble_eq_true rfl⟩ rfl (c_Land_clear_s (land_at12 hTa)) ?_
  rintro v1 w1 ⟨hv1, hS1, hz1⟩
  rw [hv1]
  clear hv1 v1
  have hc12 : ∀ q : Int, q ≠ 12 → w1 q = (up (up w 22 0 s) 22 1 0) q := fun q hq => hS1.cell q (by simp) (by simp; omega)
  have hpa9 := hst2.2
  have hs9 := hst2.1
  have hT1 : Stc w1 := hTa.sameF hS1 (by decide)
  have epa : w1 pa = w pa := by rw [hc12 pa (by omega), up_ne (by omega), up_ne (by omega)]
  have es : w1 s = w s := by rw [hc12 s (by omega), up_ne (by omega), up_ne (by omega)]
  have h220 : w1 22 0 = s := by rw [hc12 22 (by decide), up_at (by decide), up_eq]
  have h221 : w1 22 1 = 0 := by rw [hc12 22 (by decide), up_eq]
  have hR1 : Rd w1 s pa z := by
    obtain ⟨a1, a2, a3, a4, a5, a6, a7⟩ := hst
    exact ⟨h220, ⟨a1, a2, by rw [es]; exact a3, a4, a5, a6, a7⟩, by rw [es]; exact hsz, hz, by rw [epa]; exact hby, hs9, hpa9⟩
  have hid : up w1 22 1 0 = w1 := by rw [← h221]; exact up_id w1 22 1
  have hSw1 : SameF w w1 [13, 14, 15] LF := by
    intro r j hr hf
    by_cases hr12 : r = 12
    · rw [hr12] at hf ⊢
      rw [hS1 12 j (by simp) (by simp [LF] at hf ⊢; omega), up_ne (by decide), up_ne (by decide)]
    · rw [hc12 r hr12]
      by_cases hr22 : r = 22
      · rw [hr22] at hf ⊢
        simp [LF] at hf
        rw [up_at (by omega), up_at (by omega)]
      · rw [up_ne hr22, up_ne hr22]
  rw [← hid]
  dsimp only [Option.toList, List.cons_append, List.nil_append, List.append_nil]
  refine wp_aload_n (pc' := 15) rfl rfl rfl (by omega) ?_
  refine wp_aload_n (pc' := 16) rfl rfl rfl (by decide) ?_
  refine wp_call (pc' := 19) rfl rfl rfl rfl rfl ⟨Nat.le_of_ble_eq_true rfl, Nat.le_of_ble_eq_true rfl, Nat.le_of_ble_eq_true rfl, Nat.le_of_ble_eq_true rfl, Nat.le_of_ble_eq_true rfl⟩ rfl (c_Rd_ground (P0 := 0) hR1 (by omega)) ?_
  rintro v1 w2 ⟨q, hq1, hq2, hq3, hq4, ⟨hv1, hlt, hw2⟩ | ⟨hv1, heq, hle, hb1, hb2, hb3, hb4, hw2⟩⟩
  · skip
    rw [hv1]
    clear hv1 v1
    rw [epa] at hq3 hq4 hlt hw2
    dsimp only [Option.toList, List.cons_append, List.nil_append, List.append_nil]
    refine wp_if_ne (pc' := 22) (pt := 27) rfl rfl rfl (fun q_1 => absurd q_1 (by decide)) (fun q_1 => ?_)
    refine wp_aload_n (pc' := 23) rfl rfl rfl (by omega) ?_
    refine wp_getI (ci := 6) (k0 := 1) (pc' := 26) rfl rfl (by decide) (by first | assumption | rfl) ?_
    refine wp_ret rfl rfl rfl ?_
    rw [hw2, up_eq]
    exact ⟨q, ⟨hq1, hq2, hq3, hq4⟩, hSw1.put (Or.inr (by decide)), Or.inl ⟨rfl, hlt⟩⟩
  · skip
    rw [hv1]
    clear hv1 v1
    rw [epa] at hq3 hq4 heq hb1 hb2 hb3 hb4 hw2
    obtain ⟨w2', hw2'⟩ : ∃ x, x = up (up (up w1 12 0 (fg (w pa) z (q + 1) 3 5)) 12 1 (fg (w pa) z (q + 2) 3 5)) 12 3 ((fg (w pa) z (q + 1) 3 5) * (fg (w pa) z (q + 4) 0 (fg (w pa) z (q + 2) 3 5 - 1)) + fg (w pa) z (q + 3) 0 (fg (w pa) z (q + 1) 3 5 - 1)) := ⟨_, rfl⟩
    have hw2e : w2 = up w2' 22 1 (q + 5) := by
      rw [hw2, hw2']
      funext a b
      unfold up
      by_cases h22 : a = 22 ∧ b = 1
      · obtain ⟨rfl, rfl⟩ := h22
        simp
      · simp only [h22, if_false]
    have hR2 : Rd w2' s pa z := by rw [hw2']; exact ((hR1.put (by omega)).put (by omega)).put (by omega)
    have epa2 : w2' pa = w pa := by rw [hw2', up_ne (by omega), up_ne (by omega), up_ne (by omega)]; exact epa
    rw [hw2e]
    dsimp only [Option.toList, List.cons_append, List.nil_append, List.append_nil]
    refine wp_if_ne (pc' := 22) (pt := 27) rfl rfl rfl (fun q_2 => ?_) (fun q_2 => absurd (by decide) q_2)
    refine wp_aload_n (pc' := 28) rfl rfl rfl (by omega) ?_
    refine wp_call (pc' := 31) rfl rfl rfl rfl rfl ⟨Nat.le_of_ble_eq_true rfl, Nat.le_of_ble_eq_true rfl, Nat.le_of_ble_eq_true rfl, Nat.le_of_ble_eq_true rfl, Nat.le_of_ble_eq_true rfl⟩ rfl (c_Rd_skipP hR2 (by omega)) ?_
    rintro v1 w3 ⟨hv1, q2, hw3, hk1, hk2, hk3, hk4⟩
    rw [hv1]
    clear hv1 v1
    rw [epa2] at hk3 hk4
    rw [hw2'] at hw3
    have e3 : ∀ r : Int, r ≠ 22 → r ≠ 12 → w3 r = w1 r := fun r a b => by rw [hw3, up_ne a, up_ne b, up_ne b, up_ne b]
    have k120 : w3 12 0 = fg (w pa) z (q + 1) 3 5 := by rw [hw3, up_ne (by decide), up_at (by decide), up_at (by decide), up_eq]
    have k121 : w3 12 1 = fg (w pa) z (q + 2) 3 5 := by rw [hw3, up_ne (by decide), up_at (by decide), up_eq]
    have k123 : w3 12 3 = (fg (w pa) z (q + 1) 3 5) * (fg (w pa) z (q + 4) 0 (fg (w pa) z (q + 2) 3 5 - 1)) + fg (w pa) z (q + 3) 0 (fg (w pa) z (q + 1) 3 5 - 1) := by rw [hw3, up_ne (by decide), up_eq]
    have k12 : ∀ j : Int, j ≠ 0 → j ≠ 1 → j ≠ 3 → w3 12 j = w1 12 j := fun j a b c => by rw [hw3, up_ne (by decide), up_at c, up_at b, up_at a]
    have hT3 : Stc w3 := by rw [hw3]; exact (((hT1.putF (by decide)).putF (by decide)).putF (by decide)).putF (by decide)
    have k22 : w3 22 1 = q2 := by rw [hw3, up_eq]
    have hR3 : Rd w3 s pa z := by rw [hw3]; exact (((hR1.put (by omega)).put (by omega)).put (by omega)).put (by omega)
    have epa3 : w3 pa = w pa := (e3 pa (by omega) (by omega)).trans epa
    have hr3 : ROw w3 := by
      unfold ROw
      rw [e3 (-3) (by decide) (by decide), e3 (-4) (by decide) (by decide), e3 (-5) (by decide) (by decide), hc12 (-3) (by decide), hc12 (-4) (by decide), hc12 (-5) (by decide), up_ne (by decide), up_ne (by decide), up_ne (by decide), up_ne (by decide), up_ne (by decide), up_ne (by decide)]
      exact hr
    have hSw3 : SameF w w3 [13, 14, 15] LF := by rw [hw3]; exact (((hSw1.put (Or.inr (by decide))).put (Or.inr (by decide))).put (Or.inr (by decide))).put (Or.inr (by decide))
    dsimp only [Option.toList, List.cons_append, List.nil_append, List.append_nil]
    refine wp_iconst (a := 0) (pc' := 32) rfl rfl rfl ?_
    refine wp_istore_n (pc' := 33) rfl rfl (Nat.le_of_ble_eq_true rfl) rfl ?_
    dsimp only [lset, lset2, List.set, List.getElem?_cons_zero, List.getElem?_cons_succ]
    refine (l_people (w := w3) (D := D0) hT3 hr3 hR3 (by rw [k120, k121]; exact ⟨hb1.1, hb1.2, hb2.1, hb2.2⟩) 6 0 q2 w3 (by decide) (by decide) (by omega) hk2 (by rw [epa3]; exact hk4) (SameF.rf _ _ _) (by rw [k12 2 (by decide) (by decide) (by decide)]; exact hz1 2 (by decide) (by decide)) k22 (fun j a b => absurd b (by omega))).mono (fun v w' hq => ?_)
    obtain ⟨hv, hS', h2', h6', hD'⟩ := hq
    have hRq : RR (w3 pa) z (w3 12 0) (w3 12 1) q2 0 D0 = RR (w pa) z (fg (w pa) z (q + 1) 3 5) (fg (w pa) z (q + 2) 3 5) (q + 5) 0 D0 := by
      rw [epa3, k120, k121]
      exact (RR_skip hz.2 hk2 (q2 - (q + 5)).toNat (q + 5) (by omega) (by omega) hk3).symm
    rw [hRq] at hv h2' hD'
    rw [k120, k121] at hD'
    refine ⟨q, ⟨hq1, hq2, hq3, hq4⟩, hSw3.tr (hS'.mono (fun r hr => hr) (fun x hx => Or.inl (by simp [KF] at hx; rcases hx with rfl | rfl <;> decide))), Or.inr ⟨hv, heq, hb1, hb2, hb3, hb4, ?_, ?_, h2', ?_, ?_, ?_, ?_, h6', hD'⟩⟩
    · rw [hS' 12 0 (by decide) (by decide)]; exact k120
    · rw [hS' 12 1 (by decide) (by decide)]; exact k121
    · rw [hS' 12 3 (by decide) (by decide)]; exact k123
    · rw [hS' 12 4 (by decide) (by decide), k12 4 (by decide) (by decide) (by decide)]; exact hz1 4 (by decide) (by decide)
    · rw [hS' 12 5 (by decide) (by decide), k12 5 (by decide) (by decide) (by decide)]; exact hz1 5 (by decide) (by decide)
    · rw [hS' 12 6 (by decide) (by decide), k12 6 (by decide) (by decide) (by decide)]; exact hz1 6 (by decide) (by decide)
