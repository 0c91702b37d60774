/-! deeds one by one, and many of them -/
theorem Inv.deeds {w w' : Hp} (h : Inv w) (hn : w 3 2 ≠ 0) {k : Nat} {X : Nat → Int × Int × Int} (hm : w 3 6 + k ≤ 40) (hs : SameF w w' [7, 8, 9, 10, 11, 24, 25, 113, 114] [(3, 3), (3, 4), (3, 5), (3, 6), (100, 23), (109, 0), (109, 1), (109, 2)])
    (hold : ∀ q : Int, 7 ≤ q → q ≤ 11 → ∀ e : Int, 0 ≤ e → e < w 3 6 → w' q e = w q e)
    (hx : ∀ j : Nat, j < k → w' 7 (w 3 6 + j) = (X j).1 ∧ w' 8 (w 3 6 + j) = (X j).2.1 ∧ w' 9 (w 3 6 + j) = (X j).2.2 ∧ w' 10 (w 3 6 + j) = -1)
    (h36 : w' 3 6 = w 3 6 + k) (h3 : w' 3 3 = (X k).1 ∧ w' 3 4 = (X k).2.1 ∧ w' 3 5 = (X k).2.2)
    (hg : ∀ j : Nat, j < k → w' 114 (9 * (w 3 6 + j)) = (X j).1 ∧ w' 114 (9 * (w 3 6 + j) + 1) = (X j).2.1 ∧ w' 114 (9 * (w 3 6 + j) + 2) = (X j).2.2 ∧ ∀ i : Int, 0 ≤ i → i < 6 → w' 114 (9 * (w 3 6 + j) + 3 + i) = w 109 (3 + i))
    (hgo : ∀ z : Int, z < 9 * w 3 6 → w' 114 z = w 114 z) (h23 : w' 100 23 = w 3 6 + k) (h9 : w' 109 0 = (X k).1 ∧ w' 109 1 = (X k).2.1 ∧ w' 109 2 = (X k).2.2)
    (hX : ∀ j : Nat, j ≤ k → Cel (w 3 0) (w 3 1) (X j).1 ∧ (0 ≤ (X j).2.1 ∧ (X j).2.1 ≤ 4) ∧ (0 ≤ (X j).2.2 ∧ (X j).2.2 ≤ w 3 6 + j)) : Inv w' := by
  obtain ⟨hn25, b11, b12, b10, hn6, hem, m0, m1, m2, m23, hyr, hdd, hpre⟩ := h.base
  have hpr := hpre hn
  obtain ⟨h1, h2, h3f, h4, h5, h6, h7, h8⟩ := h
  have hc : ∀ q : Int, q ∉ ([24, 25, 113, 114, 7, 8, 9, 10, 11, 3, 100, 109] : List Int) → w' q = w q := fun q hq => hs.cell q (by simp; simp at hq; omega) (fun z hz => by
    simp at hz
    simp at hq
    rcases hz with rfl | rfl | rfl | rfl | rfl | rfl | rfl | rfl <;> (dsimp only; omega))
  have hf : ∀ k : Int, k ≠ 23 → w' 100 k = w 100 k := fun k hk => hs 100 k (by decide) (by simp; omega)
  have hk : ∀ k : Int, 3 ≤ k → w' 109 k = w 109 k := fun k hk => hs 109 k (by decide) (by simp; omega)
  have h3k : ∀ k : Int, k < 3 → w' 3 k = w 3 k := fun k hk => hs 3 k (by decide) (by simp; omega)
  have hM' : MdOK w' := by
    obtain ⟨q1, q2, q3⟩ := hpr.2.1
    unfold MdOK
    rw [hf 10 (by decide), hf 11 (by decide), hf 12 (by decide), hc 107 (by simp), hc 108 (by simp)]
    exact ⟨q1, q2, fun i a b => by rw [hk _ (by omega)]; exact q3 i a b⟩
  have hLR : LR w 3 (w 109) (w 114) (w 100 23) := by
    rcases h7 with hE | hE
    · exact absurd hE.2.2.1 hn
    · exact hE.2
  have hLR' : LR w' 3 (w' 109) (w' 114) (w' 100 23) := by
    obtain ⟨⟨a0, a1, a2, a3, a4, a5, a6⟩, am, ac, ab, ay, ah, al⟩ := hLR
    have hk0 := hX k (Nat.le_refl k)
    refine ⟨⟨by rw [h3k 0 (by decide), hf 11 (by decide)]; exact a0, by rw [h3k 1 (by decide), hf 12 (by decide)]; exact a1, by rw [h3k 2 (by decide), hf 10 (by decide)]; exact a2, by rw [h3.1, h9.1], by rw [h3.2.1, h9.2.1], by rw [h3.2.2, h9.2.2], by rw [h36, h23]⟩, by omega, by rw [hf 11 (by decide), hf 12 (by decide), h9.1, b11, b12]; exact hk0.1, by rw [h9.2.1]; exact hk0.2.1, by rw [h9.2.2, h23]; exact hk0.2.2, fun i i0 i1 => ?_, fun e e0 e1 => ?_⟩
    · rw [hf 10 (by decide)] at i1
      obtain ⟨y1, y2, y3, y4⟩ := ah i i0 i1
      rw [hc 107 (by simp), hc 108 (by simp), hk (3 + i) (by omega), hf 11 (by decide), hf 12 (by decide), show (3 : Int) + 1 = 4 from rfl, show (3 : Int) + 2 = 5 from rfl, show (3 : Int) + 3 = 6 from rfl, hc 4 (by simp), hc 5 (by simp), hc 6 (by simp)]
      exact ⟨y1, y2, y3, y4⟩
    · rw [h23] at e1
      rw [hf 10 (by decide), hf 11 (by decide), hf 12 (by decide), show (3 : Int) + 4 = 7 from rfl, show (3 : Int) + 5 = 8 from rfl, show (3 : Int) + 6 = 9 from rfl, show (3 : Int) + 7 = 10 from rfl, show (3 : Int) + 8 = 11 from rfl]
      have hnx : ∀ i : Int, 0 ≤ i → i < w 100 10 → w 3 6 ≤ e + 1 → (if e + 1 < w' 100 23 then w' 114 (9 * (e + 1) + 3 + i) else w' 109 (3 + i)) = w 109 (3 + i) := fun i i0 i1 he => by
        by_cases hl : e + 1 < w' 100 23
        · rw [if_pos hl]
          rw [h23] at hl
          have := (hg (e + 1 - w 3 6).toNat (by omega)).2.2.2 i i0 (by omega)
          rw [show ((e + 1 - w 3 6).toNat : Int) = e + 1 - w 3 6 by omega, show w 3 6 + (e + 1 - w 3 6) = e + 1 by omega] at this
          exact this
        · rw [if_neg hl, hk _ (by omega)]
      by_cases he : e < w 3 6
      · obtain ⟨y1, y2, y3, y4, y5, y6, y7⟩ := al e e0 (by omega)
        rw [hgo (9 * e) (by omega), hgo (9 * e + 1) (by omega), hgo (9 * e + 2) (by omega), hold 7 (by decide) (by decide) e e0 he, hold 8 (by decide) (by decide) e e0 he, hold 9 (by decide) (by decide) e e0 he, hold 10 (by decide) (by decide) e e0 he, hold 11 (by decide) (by decide) e e0 he]
        refine ⟨y1, y2, y3, y4, y5, y6, fun i i0 i1 => ?_⟩
        obtain ⟨z1, z2⟩ := y7 i i0 i1
        rw [hgo (9 * e + 3 + i) (by omega)]
        refine ⟨?_, z2⟩
        rw [z1, show (3 : Int) + 7 = 10 from rfl, show (3 : Int) + 8 = 11 from rfl]
        by_cases hl : e + 1 < w 3 6
        · rw [if_pos (show e + 1 < w 100 23 by omega), if_pos (show e + 1 < w' 100 23 by omega), hgo _ (by omega)]
        · rw [if_neg (show ¬ e + 1 < w 100 23 by omega), hnx i i0 i1 (by omega)]
      · have hj : (e - w 3 6).toNat < k := by omega
        have hje : w 3 6 + ((e - w 3 6).toNat : Int) = e := by omega
        obtain ⟨x1, x2, x3, x4⟩ := hx _ hj
        obtain ⟨g1, g2, g3, g4⟩ := hg _ hj
        obtain ⟨q1, q2, q3⟩ := hX _ (Nat.le_of_lt hj)
        rw [hje] at x1 x2 x3 x4 g1 g2 g3 g4 q3
        refine ⟨by rw [x1, g1], by rw [x2, g2], by rw [x3, g3], by rw [g1, b11, b12]; exact q1, by rw [g2]; exact q2, by rw [g3]; exact q3, fun i i0 i1 => ?_⟩
        have hi2 := hpr.2.1.2.2 i i0 i1
        rw [g4 i i0 (by omega), x4, if_neg (by omega)]
        exact ⟨(hnx i i0 i1 (by omega)).symm, hi2.2.1⟩
  refine ⟨fun q hq => ?_, ?_, ?_, ?_, ?_, ?_, Or.inr ⟨hM', hLR'⟩, fun k a b => ?_⟩
  · have hq1 := h1 q hq
    have hz : refTab.all (fun q => decide (q.1 ∉ ([7, 8, 9, 10, 11, 24, 25, 113, 114] : List Int) ∧ (q.1, q.2.1) ∉ ([(3, 3), (3, 4), (3, 5), (3, 6), (100, 23), (109, 0), (109, 1), (109, 2)] : List (Int × Int)))) = true := by decide
    have h9 := of_decide_eq_true (List.all_eq_true.mp hz q hq)
    rw [hs q.1 q.2.1 h9.1 h9.2]
    exact hq1
  · unfold ROw at h2 ⊢
    rw [hc (-3) (by simp), hc (-4) (by simp), hc (-5) (by simp)]
    exact h2
  · unfold IFd at h3f ⊢
    rw [hc 0 (by simp), hf 0 (by decide), hf 3 (by decide), hf 4 (by decide), hc 52 (by simp), hc 101 (by simp), hc 50 (by simp), hc 31 (by simp)]
    exact h3f
  · unfold ITo at h4 ⊢
    rw [hc 0 (by simp), hf 2 (by decide)]
    exact h4
  · intro q a b
    rw [hc (53 + 2 * q) (by simp; omega), hc (54 + 2 * q) (by simp; omega), hc 102 (by simp), hc 103 (by simp)]
    exact h5 q a b
  · intro q a b
    rw [hc (65 + 2 * q) (by simp; omega), hc (66 + 2 * q) (by simp; omega), hc 105 (by simp), hc 106 (by simp)]
    exact h6 q a b
  · rw [hc 115 (by simp), hc 116 (by simp), hc 117 (by simp), hc 118 (by simp), hc (73 + 9 * k) (by simp; omega)]
    rcases h8 k a b with z | ⟨z1, z2, z3⟩
    · exact Or.inl z
    · exact Or.inr ⟨z1, hM', z3.congr (fun q c d => hc q (by simp; omega)) ⟨hf 10 (by decide), hf 11 (by decide), hf 12 (by decide)⟩ (hc 107 (by simp)) (hc 108 (by simp))⟩
/-- what a deed that moves the mountain writes down -/
def DX (w w' : Hp) : Prop := w' 7 (w 3 6) = w 3 3 ∧ w' 8 (w 3 6) = w 3 4 ∧ w' 9 (w 3 6) = w 3 5 ∧ w' 10 (w 3 6) = -1 ∧ w' 3 6 = w 3 6 + 1
def DQ (m : Int) : List (Int × Int) := [(7, m), (8, m), (9, m), (10, m), (11, m), (3, 3), (3, 4), (3, 5), (3, 6)]
set_option maxRecDepth 20000 in
set_option maxHeartbeats 4000000 in
theorem c_Land_bePushed {w : Hp} {d : Nat} {way : Int} (hT : Stc w) (hm : 0 ≤ w 3 6 ∧ w 3 6 < 40) (hc : CL (w 3 0) (w 3 1)) (hx : Cel (w 3 0) (w 3 1) (w 3 3)) : WP SH (d + 2) 45 0 [some (vR 3), some (vI way), none] [] w (fun v w' => v = none ∧ SameF w w' [] (DQ (w 3 6)) ∧ DX w w' ∧ w' 3 3 = (if sBeside (w 3 0) (w 3 1) (w 3 3) way = -1 then w 3 3 else sBeside (w 3 0) (w 3 1) (w 3 3) way) ∧ w' 3 4 = 0 ∧ w' 3 5 = w 3 5) := by
  refine wp_aload_n (pc' := 1) rfl rfl rfl (by decide) ?_
  refine wp_iconst (a := -1) (pc' := 2) rfl rfl rfl ?_
  refine wp_call (pc' := 5) rfl rfl rfl rfl rfl ⟨Nat.le_of_ble_eq_true rfl, Nat.le_of_ble_eq_true rfl, Nat.le_of_ble_eq_true rfl, Nat.le_of_ble_eq_true rfl, Nat.le_of_ble_eq_true rfl⟩ rfl (c_Land_remember (one := -1) hT hm (by decide)) ?_
  rintro v1 w1 ⟨hv1, hS1, x7, x8, x9, x10, x11, x36⟩
  rw [hv1]
  clear hv1 v1
  have hSD : SameF w w1 [] (DQ (w 3 6)) := hS1.mono (fun r hr => hr) (fun q hq => Or.inl (by simp at hq; rcases hq with rfl | rfl | rfl | rfl | rfl | rfl <;> simp [DQ]))
  have hT := hT.sameF (L := [7, 8, 9, 10, 11]) (F := [(3, 6)]) (hS1.mono (fun r hr => absurd hr (by simp)) (fun q hq => by simp at hq ⊢; rcases hq with rfl | rfl | rfl | rfl | rfl | rfl <;> simp)) (by decide)
  have e33 : w1 3 3 = w 3 3 := hS1 3 3 (by simp) (by simp)
  have e34 : w1 3 4 = w 3 4 := hS1 3 4 (by simp) (by simp)
  have e35 : w1 3 5 = w 3 5 := hS1 3 5 (by simp) (by simp)
  have e30 : w1 3 0 = w 3 0 := hS1 3 0 (by simp) (by simp)
  have e31 : w1 3 1 = w 3 1 := hS1 3 1 (by simp) (by simp)
  have hc1 : CL (w1 3 0) (w1 3 1) := by rw [e30, e31]; exact hc
  have hx1 : Cel (w1 3 0) (w1 3 1) (w1 3 3) := by rw [e30, e31, e33]; exact hx
  dsimp only [Option.toList, List.cons_append, List.nil_append, List.append_nil]
  refine wp_if_ne (pc' := 8) (pt := 9) rfl rfl rfl (fun q_1 => ?_) (fun q_1 => ?_)
  · skip
    refine wp_aload_n (pc' := 10) rfl rfl rfl (by decide) ?_
    refine wp_aload_n (pc' := 11) rfl rfl rfl (by decide) ?_
    refine wp_getI (ci := 3) (k0 := 3) (pc' := 14) rfl rfl (by decide) (by first | assumption | rfl) ?_
    refine wp_iload_n (pc' := 15) rfl rfl rfl ?_
    refine wp_call (pc' := 18) rfl rfl rfl rfl rfl ⟨Nat.le_of_ble_eq_true rfl, Nat.le_of_ble_eq_true rfl, Nat.le_of_ble_eq_true rfl, Nat.le_of_ble_eq_true rfl, Nat.le_of_ble_eq_true rfl⟩ rfl (c_Land_beside hc1 hx1) ?_
    intro v1 w9 hq1
    rw [hq1.1, hq1.2]
    clear hq1 v1 w9
    dsimp only [Option.toList, List.cons_append, List.nil_append, List.append_nil]
    refine wp_istore_n (pc' := 19) rfl rfl (Nat.le_of_ble_eq_true rfl) rfl ?_
    dsimp only [lset, lset2, List.set, List.getElem?_cons_zero, List.getElem?_cons_succ]
    refine wp_aload_n (pc' := 20) rfl rfl rfl (by decide) ?_
    refine wp_iload_n (pc' := 21) rfl rfl rfl ?_
    refine wp_iconst (a := -1) (pc' := 22) rfl rfl rfl ?_
    refine wp_icmp_ne (pc' := 25) (pt := 32) rfl rfl rfl (fun q_2 => ?_) (fun q_2 => ?_)
    · skip
      refine wp_iload_n (pc' := 33) rfl rfl rfl ?_
      refine wp_putI (ci := 3) (k0 := 3) (pc' := 36) rfl rfl (by decide) (by first | assumption | rfl) ?_
      refine wp_aload_n (pc' := 37) rfl rfl rfl (by decide) ?_
      refine wp_iconst (a := 0) (pc' := 38) rfl rfl rfl ?_
      refine wp_putI (ci := 3) (k0 := 4) (pc' := 41) rfl rfl (by decide) (by first | assumption | rfl) ?_
      refine wp_ret rfl rfl rfl ?_
      refine ⟨rfl, (hSD.put (Or.inr (by simp [DQ]))).put (Or.inr (by simp [DQ])), ⟨?_, ?_, ?_, ?_, ?_⟩, ?_, ?_, ?_⟩
      · rw [up_ne (by decide), up_ne (by decide)]; exact x7
      · rw [up_ne (by decide), up_ne (by decide)]; exact x8
      · rw [up_ne (by decide), up_ne (by decide)]; exact x9
      · rw [up_ne (by decide), up_ne (by decide)]; exact x10
      · rw [up_at (by decide), up_at (by decide)]; exact x36
      · rw [up_at (by decide), up_eq]
        first
        | (rw [if_pos (by rw [← e30, ← e31, ← e33]; omega)]; exact e33)
        | (rw [if_neg (by rw [← e30, ← e31, ← e33]; omega), e30, e31, e33])
      · rw [up_eq]
      · rw [up_at (by decide), up_at (by decide)]; exact e35
    · skip
      refine wp_aload_n (pc' := 26) rfl rfl rfl (by decide) ?_
      refine wp_getI (ci := 3) (k0 := 3) (pc' := 29) rfl rfl (by decide) (by first | assumption | rfl) ?_
      refine wp_goto (pc' := 33) rfl rfl ?_
      refine wp_putI (ci := 3) (k0 := 3) (pc' := 36) rfl rfl (by decide) (by first | assumption | rfl) ?_
      refine wp_aload_n (pc' := 37) rfl rfl rfl (by decide) ?_
      refine wp_iconst (a := 0) (pc' := 38) rfl rfl rfl ?_
      refine wp_putI (ci := 3) (k0 := 4) (pc' := 41) rfl rfl (by decide) (by first | assumption | rfl) ?_
      refine wp_ret rfl rfl rfl ?_
      refine ⟨rfl, (hSD.put (Or.inr (by simp [DQ]))).put (Or.inr (by simp [DQ])), ⟨?_, ?_, ?_, ?_, ?_⟩, ?_, ?_, ?_⟩
      · rw [up_ne (by decide), up_ne (by decide)]; exact x7
      · rw [up_ne (by decide), up_ne (by decide)]; exact x8
      · rw [up_ne (by decide), up_ne (by decide)]; exact x9
      · rw [up_ne (by decide), up_ne (by decide)]; exact x10
      · rw [up_at (by decide), up_at (by decide)]; exact x36
      · rw [up_at (by decide), up_eq]
        first
        | (rw [if_pos (by rw [← e30, ← e31, ← e33]; omega)]; exact e33)
        | (rw [if_neg (by rw [← e30, ← e31, ← e33]; omega), e30, e31, e33])
      · rw [up_eq]
      · rw [up_at (by decide), up_at (by decide)]; exact e35
  · skip
    exfalso; omega
set_option maxRecDepth 20000 in
set_option maxHeartbeats 4000000 in
theorem c_Land_goInYear {w : Hp} {d : Nat} {way : Int} (hT : Stc w) (hm : 0 ≤ w 3 6 ∧ w 3 6 < 40) (hc : CL (w 3 0) (w 3 1)) (hx : Cel (w 3 0) (w 3 1) (w 3 3)) (hr : ROw w) (hw : 0 ≤ way ∧ way ≤ 4) (hb : sBeside (w 3 0) (w 3 1) (w 3 3) way ≠ -1) (hy : 0 ≤ w 3 5 ∧ w 3 5 ≤ 40) : WP SH (d + 2) 44 0 [some (vR 3), some (vI way)] [] w (fun v w' => v = none ∧ SameF w w' [] (DQ (w 3 6)) ∧ DX w w' ∧ w' 3 3 = sBeside (w 3 0) (w 3 1) (w 3 3) way ∧ w' 3 4 = sAgainst way ∧ w' 3 5 = w 3 5 + 1) := by
  refine wp_aload_n (pc' := 1) rfl rfl rfl (by decide) ?_
  refine wp_aload_n (pc' := 2) rfl rfl rfl (by decide) ?_
  refine wp_getI (ci := 3) (k0 := 3) (pc' := 5) rfl rfl (by decide) (by first | assumption | rfl) ?_
  refine wp_iload_n (pc' := 6) rfl rfl rfl ?_
  refine wp_call (pc' := 9) rfl rfl rfl rfl rfl ⟨Nat.le_of_ble_eq_true rfl, Nat.le_of_ble_eq_true rfl, Nat.le_of_ble_eq_true rfl, Nat.le_of_ble_eq_true rfl, Nat.le_of_ble_eq_true rfl⟩ rfl (c_Land_beside hc hx) ?_
  intro v1 w9 hq1
  rw [hq1.1, hq1.2]
  clear hq1 v1 w9
  dsimp only [Option.toList, List.cons_append, List.nil_append, List.append_nil]
  refine wp_iconst (a := -1) (pc' := 10) rfl rfl rfl ?_
  refine wp_icmp_eq (pc' := 13) (pt := 21) rfl rfl rfl (fun q_1 => ?_) (fun q_1 => ?_)
  · skip
    exfalso; omega
  · skip
    refine wp_aload_n (pc' := 14) rfl rfl rfl (by decide) ?_
    refine wp_iconst (a := -1) (pc' := 15) rfl rfl rfl ?_
    refine wp_call (pc' := 18) rfl rfl rfl rfl rfl ⟨Nat.le_of_ble_eq_true rfl, Nat.le_of_ble_eq_true rfl, Nat.le_of_ble_eq_true rfl, Nat.le_of_ble_eq_true rfl, Nat.le_of_ble_eq_true rfl⟩ rfl (c_Land_remember (one := -1) hT hm (by decide)) ?_
    rintro v1 w1 ⟨hv1, hS1, x7, x8, x9, x10, x11, x36⟩
    rw [hv1]
    clear hv1 v1
    have hSD : SameF w w1 [] (DQ (w 3 6)) := hS1.mono (fun r hr => hr) (fun q hq => Or.inl (by simp at hq; rcases hq with rfl | rfl | rfl | rfl | rfl | rfl <;> simp [DQ]))
    have hT := hT.sameF (L := [7, 8, 9, 10, 11]) (F := [(3, 6)]) (hS1.mono (fun r hr => absurd hr (by simp)) (fun q hq => by simp at hq ⊢; rcases hq with rfl | rfl | rfl | rfl | rfl | rfl <;> simp)) (by decide)
    have e33 : w1 3 3 = w 3 3 := hS1 3 3 (by simp) (by simp)
    have e34 : w1 3 4 = w 3 4 := hS1 3 4 (by simp) (by simp)
    have e35 : w1 3 5 = w 3 5 := hS1 3 5 (by simp) (by simp)
    have e30 : w1 3 0 = w 3 0 := hS1 3 0 (by simp) (by simp)
    have e31 : w1 3 1 = w 3 1 := hS1 3 1 (by simp) (by simp)
    have hc1 : CL (w1 3 0) (w1 3 1) := by rw [e30, e31]; exact hc
    have hx1 : Cel (w1 3 0) (w1 3 1) (w1 3 3) := by rw [e30, e31, e33]; exact hx
    dsimp only [Option.toList, List.cons_append, List.nil_append, List.append_nil]
    refine wp_if_ne (pc' := 21) (pt := 22) rfl rfl rfl (fun q_2 => ?_) (fun q_2 => ?_)
    · skip
      refine wp_aload_n (pc' := 23) rfl rfl rfl (by decide) ?_
      refine wp_aload_n (pc' := 24) rfl rfl rfl (by decide) ?_
      refine wp_aload_n (pc' := 25) rfl rfl rfl (by decide) ?_
      refine wp_getI (ci := 3) (k0 := 3) (pc' := 28) rfl rfl (by decide) (by first | assumption | rfl) ?_
      refine wp_iload_n (pc' := 29) rfl rfl rfl ?_
      refine wp_call (pc' := 32) rfl rfl rfl rfl rfl ⟨Nat.le_of_ble_eq_true rfl, Nat.le_of_ble_eq_true rfl, Nat.le_of_ble_eq_true rfl, Nat.le_of_ble_eq_true rfl, Nat.le_of_ble_eq_true rfl⟩ rfl (c_Land_beside hc1 hx1) ?_
      intro v1 w9 hq1
      rw [hq1.1, hq1.2]
      clear hq1 v1 w9
      dsimp only [Option.toList, List.cons_append, List.nil_append, List.append_nil]
      refine wp_putI (ci := 3) (k0 := 3) (pc' := 35) rfl rfl (by decide) (by first | assumption | rfl) ?_
      refine wp_aload_n (pc' := 36) rfl rfl rfl (by decide) ?_
      refine wp_iload_n (pc' := 37) rfl rfl rfl ?_
      refine wp_call (pc' := 40) rfl rfl rfl rfl rfl ⟨Nat.le_of_ble_eq_true rfl, Nat.le_of_ble_eq_true rfl, Nat.le_of_ble_eq_true rfl, Nat.le_of_ble_eq_true rfl, Nat.le_of_ble_eq_true rfl⟩ rfl (c_Land_against (by unfold ROw at hr ⊢; rw [up_ne (by decide), up_ne (by decide), up_ne (by decide), hSD.cell (-3) (by simp) (by simp [DQ]), hSD.cell (-4) (by simp) (by simp [DQ]), hSD.cell (-5) (by simp) (by simp [DQ])]; exact hr) hw) ?_
      intro v1 w9 hq1
      rw [hq1.1, hq1.2]
      clear hq1 v1 w9
      dsimp only [Option.toList, List.cons_append, List.nil_append, List.append_nil]
      refine wp_putI (ci := 3) (k0 := 4) (pc' := 43) rfl rfl (by decide) (by first | assumption | rfl) ?_
      refine wp_aload_n (pc' := 44) rfl rfl rfl (by decide) ?_
      refine wp_dupR (pc' := 45) rfl rfl ?_
      refine wp_getI (ci := 3) (k0 := 5) (pc' := 48) rfl rfl (by decide) (by first | assumption | rfl) ?_
      refine wp_iconst (a := 1) (pc' := 49) rfl rfl rfl ?_
      refine wp_iadd (pc' := 50) rfl rfl (by first | exact w32_id (by omega) (by omega) | rfl) ?_
      refine wp_putI (ci := 3) (k0 := 5) (pc' := 53) rfl rfl (by decide) (by first | assumption | rfl) ?_
      refine wp_ret rfl rfl rfl ?_
      refine ⟨rfl, ((hSD.put (Or.inr (by simp [DQ]))).put (Or.inr (by simp [DQ]))).put (Or.inr (by simp [DQ])), ⟨?_, ?_, ?_, ?_, ?_⟩, ?_, ?_, ?_⟩
      · rw [up_ne (by decide), up_ne (by decide), up_ne (by decide)]; exact x7
      · rw [up_ne (by decide), up_ne (by decide), up_ne (by decide)]; exact x8
      · rw [up_ne (by decide), up_ne (by decide), up_ne (by decide)]; exact x9
      · rw [up_ne (by decide), up_ne (by decide), up_ne (by decide)]; exact x10
      · rw [up_at (by decide), up_at (by decide), up_at (by decide)]; exact x36
      · rw [up_at (by decide), up_at (by decide), up_eq, e30, e31, e33]
      · rw [up_at (by decide), up_eq]
      · rw [up_eq, up_at (by decide), up_at (by decide), e35]
        exact w32_id (by omega) (by omega)
    · skip
      exfalso; omega
set_option maxRecDepth 20000 in
set_option maxHeartbeats 4000000 in
theorem c_VH_passYear {w : Hp} {d : Nat} (hT : Stc w) (hr : ROw w) (hp : LnOK w) (hx : Cel (w 3 0) (w 3 1) (w 3 3)) (hm : 0 ≤ w 3 6 ∧ w 3 6 < 40) (hy : 0 ≤ w 3 5 ∧ w 3 5 ≤ 40) : WP SH (d + 5) 133 0 [some (vR 0), none] [] w (fun v w' => v = some (vI (sWay (w 3 0) (w 3 1) (w 3 2) (w 4) (w 5) (w 6) (w 3 3) (w 3 4))) ∧ SameF w w' [24, 25] (DQ (w 3 6)) ∧ DX w w' ∧ w' 3 3 = sBeside (w 3 0) (w 3 1) (w 3 3) (sWay (w 3 0) (w 3 1) (w 3 2) (w 4) (w 5) (w 6) (w 3 3) (w 3 4)) ∧ w' 3 4 = sAgainst (sWay (w 3 0) (w 3 1) (w 3 2) (w 4) (w 5) (w 6) (w 3 3) (w 3 4)) ∧ w' 3 5 = w 3 5 + 1) := by
  have hwy := @sWay_ok _ _ (w 3 2) (w 3 3) (w 3 4) (w 4) (w 5) (w 6) hp.1 hx (fun j a b => (hp.2.2 j a b).2.2)
  refine wp_aload_n (pc' := 1) rfl rfl rfl (by decide) ?_
  refine wp_getR (r' := 23) (ci := 9) (k0 := 6) (pc' := 4) rfl rfl (by decide) (by first | assumption | rfl) (hT.get 6 rfl) ?_
  refine wp_aload_n (pc' := 5) rfl rfl rfl (by decide) ?_
  refine wp_getR (r' := 3) (ci := 9) (k0 := 2) (pc' := 8) rfl rfl (by decide) (by first | assumption | rfl) (hT.get 2 rfl) ?_
  refine wp_aload_n (pc' := 9) rfl rfl rfl (by decide) ?_
  refine wp_getR (r' := 3) (ci := 9) (k0 := 2) (pc' := 12) rfl rfl (by decide) (by first | assumption | rfl) (hT.get 2 rfl) ?_
  refine wp_getI (ci := 3) (k0 := 3) (pc' := 15) rfl rfl (by decide) (by first | assumption | rfl) ?_
  refine wp_aload_n (pc' := 16) rfl rfl rfl (by decide) ?_
  refine wp_getR (r' := 3) (ci := 9) (k0 := 2) (pc' := 19) rfl rfl (by decide) (by first | assumption | rfl) (hT.get 2 rfl) ?_
  refine wp_getI (ci := 3) (k0 := 4) (pc' := 22) rfl rfl (by decide) (by first | assumption | rfl) ?_
  refine wp_call (pc' := 25) rfl rfl rfl rfl rfl ⟨Nat.le_of_ble_eq_true rfl, Nat.le_of_ble_eq_true rfl, Nat.le_of_ble_eq_true rfl, Nat.le_of_ble_eq_true rfl, Nat.le_of_ble_eq_true rfl⟩ rfl (c_Ballot_hold hT hr hp hx) ?_
  rintro v1 w1 ⟨hv1, hS1, hc1, hz1⟩
  rw [hv1]
  clear hv1 v1
  have hT1 := hT.same hS1 (by decide)
  have hT := hT1
  have e3 : w1 3 = w 3 := hS1 3 (by decide)
  dsimp only [Option.toList, List.cons_append, List.nil_append, List.append_nil]
  refine wp_aload_n (pc' := 26) rfl rfl rfl (by decide) ?_
  refine wp_getR (r' := 23) (ci := 9) (k0 := 6) (pc' := 29) rfl rfl (by decide) (by first | assumption | rfl) (hT.get 6 rfl) ?_
  refine wp_call (pc' := 32) rfl rfl rfl rfl rfl ⟨Nat.le_of_ble_eq_true rfl, Nat.le_of_ble_eq_true rfl, Nat.le_of_ble_eq_true rfl, Nat.le_of_ble_eq_true rfl, Nat.le_of_ble_eq_true rfl⟩ rfl (c_Ballot_winner hT1) ?_
  intro v1 w9 hq1
  rw [hq1.1, hq1.2]
  clear hq1 v1 w9
  rw [show sWin (w1 25) = (sWay (w 3 0) (w 3 1) (w 3 2) (w 4) (w 5) (w 6) (w 3 3) (w 3 4)) from sWin_congr (fun j a b => hz1 j a (by omega))]
  dsimp only [Option.toList, List.cons_append, List.nil_append, List.append_nil]
  refine wp_istore_n (pc' := 33) rfl rfl (Nat.le_of_ble_eq_true rfl) rfl ?_
  dsimp only [lset, lset2, List.set, List.getElem?_cons_zero, List.getElem?_cons_succ]
  refine wp_aload_n (pc' := 34) rfl rfl rfl (by decide) ?_
  refine wp_getR (r' := 3) (ci := 9) (k0 := 2) (pc' := 37) rfl rfl (by decide) (by first | assumption | rfl) (hT.get 2 rfl) ?_
  refine wp_iload_n (pc' := 38) rfl rfl rfl ?_
  refine wp_call (pc' := 41) rfl rfl rfl rfl rfl ⟨Nat.le_of_ble_eq_true rfl, Nat.le_of_ble_eq_true rfl, Nat.le_of_ble_eq_true rfl, Nat.le_of_ble_eq_true rfl, Nat.le_of_ble_eq_true rfl⟩ rfl (c_Land_goInYear hT1 (by rw [e3]; exact hm) (by rw [e3]; exact hp.1) (by rw [e3]; exact hx) (hr.same hS1 (by decide)) ⟨hwy.1, hwy.2.1⟩ (by rw [e3]; exact hwy.2.2) (by rw [e3]; exact hy)) ?_
  rintro v1 w2 ⟨hv1, hS2, hx2, y3, y4, y5⟩
  rw [hv1]
  clear hv1 v1
  rw [e3] at hS2 y3 y5
  unfold DX at hx2
  rw [e3] at hx2
  dsimp only [Option.toList, List.cons_append, List.nil_append, List.append_nil]
  refine wp_iload_n (pc' := 42) rfl rfl rfl ?_
  refine wp_ret rfl rfl rfl ?_
  exact ⟨rfl, (hS1.F _).tr (hS2.mono (fun r hr => absurd hr (by simp)) (fun q hq => Or.inl hq)), hx2, y3, y4, y5⟩
