/-! keep, on -/
theorem BB.same {w w1 : Hp} {o s : Int} (h : BB w w1 o s 7 8) (ho : o = 3 ∨ o = 73 ∨ o = 82 ∨ o = 91) : SameF w w1 LL FL := by
  intro r j hr hf
  by_cases h1 : r = o
  · by_cases h2 : 0 ≤ j ∧ j < 7
    · exfalso
      subst h1
      have hj : j = 0 ∨ j = 1 ∨ j = 2 ∨ j = 3 ∨ j = 4 ∨ j = 5 ∨ j = 6 := by omega
      rcases ho with rfl | rfl | rfl | rfl <;> rcases hj with rfl | rfl | rfl | rfl | rfl | rfl | rfl <;> exact hf (by decide)
    · rw [h1]
      exact h.2.1 j (by omega)
  · by_cases h2 : o ≤ r ∧ r ≤ o + 8
    · exfalso
      have hj : r = o + 1 ∨ r = o + 2 ∨ r = o + 3 ∨ r = o + 4 ∨ r = o + 5 ∨ r = o + 6 ∨ r = o + 7 ∨ r = o + 8 := by omega
      rcases ho with rfl | rfl | rfl | rfl <;> rcases hj with rfl | rfl | rfl | rfl | rfl | rfl | rfl | rfl <;> exact hr (by decide)
    · rw [h.1 r h2]
theorem kept_in {k : Int} (h0 : 0 ≤ k) (h3 : k < 3) : 73 + 9 * k = 3 ∨ 73 + 9 * k = 73 ∨ 73 + 9 * k = 82 ∨ 73 + 9 * k = 91 := by omega
theorem keep_end {w w1 w4 : Hp} {k : Int} (hI : Inv w) (hn : w 3 2 ≠ 0) (hk : 0 ≤ k ∧ k < 3) (hB : BB w w1 (73 + 9 * k) 3 7 8) (hS : SameF w1 w4 [117, 118] [(115, k), (116, k)]) (h15 : w4 115 k = 1) (h16 : w4 116 k = w 3 6) (h17 : ∀ j : Int, 0 ≤ j → j < 9 → w4 117 (9 * k + j) = w 109 j) (o17 : ∀ z : Int, z < 9 * k ∨ 9 * k + 9 ≤ z → w4 117 z = w 117 z) (h18 : ∀ j : Int, 0 ≤ j → j < 9 * w 3 6 → w4 118 (360 * k + j) = w 114 j) (o18 : ∀ z : Int, z < 360 * k ∨ 360 * k + 9 * w 3 6 ≤ z → w4 118 z = w 118 z) : w4 (-2) = w1 (-2) ∧ Inv w4 := by
  obtain ⟨hn25, b11, b12, b10, hn6, hem, m0, m1, m2, m23, hyr, hdd, hpre⟩ := hI.base
  have hpr := hpre hn
  have hLR := hI.lr hn
  have ec : ∀ q : Int, q ≠ 115 → q ≠ 116 → q ≠ 117 → q ≠ 118 → w4 q = w1 q := fun q a b c e => hS.cell q (by simp; omega) (by simp; omega)
  have eq1 : ∀ q : Int, q < 73 + 9 * k ∨ 81 + 9 * k < q → w1 q = w q := fun q hq => hB.1 q (by omega)
  have eq : ∀ q : Int, q ≠ 115 → q ≠ 116 → q ≠ 117 → q ≠ 118 → (q < 73 + 9 * k ∨ 81 + 9 * k < q) → w4 q = w q := fun q a b c e f => (ec q a b c e).trans (eq1 q f)
  have f100 : w4 100 = w 100 := eq 100 (by decide) (by decide) (by decide) (by decide) (by omega)
  have f107 : w4 107 = w 107 := eq 107 (by decide) (by decide) (by decide) (by decide) (by omega)
  have f108 : w4 108 = w 108 := eq 108 (by decide) (by decide) (by decide) (by decide) (by omega)
  have f109 : w4 109 = w 109 := eq 109 (by decide) (by decide) (by decide) (by decide) (by omega)
  have f114 : w4 114 = w 114 := eq 114 (by decide) (by decide) (by decide) (by decide) (by omega)
  have hM' : MdOK w4 := by
    unfold MdOK
    rw [f100, f107, f108, f109]
    exact hpr.2.1
  have hSs : SameF w w4 LL FL := (hB.same (kept_in hk.1 hk.2)).tr (hS.mono (fun r hr => by simp at hr; rcases hr with rfl | rfl <;> simp [LL]) (fun q hq => by simp at hq; rcases hq with rfl | rfl <;> simp [LL]))
  refine ⟨ec (-2) (by decide) (by decide) (by decide) (by decide), hI.land0 hSs ?_ (Or.inr ⟨hM', ?_⟩) (fun q q0 q3 => ?_)⟩
  · rw [eq 0 (by decide) (by decide) (by decide) (by decide) (by omega), f100]
    exact hI.2.2.2.1
  · rw [f109, f114, f100]
    exact hLR.congr (fun q a b => eq q (by omega) (by omega) (by omega) (by omega) (by omega)) ⟨by rw [f100], by rw [f100], by rw [f100]⟩ f107 f108
  · by_cases hq : q = k
    · subst hq
      rw [h15, h16, ← m23]
      refine Or.inr ⟨rfl, hM', hLR.move (by omega) ⟨by rw [f100], by rw [f100], by rw [f100], f107, f108⟩ (fun j j0 j1 => ?_) (fun z z1 z2 j j0 j1 => ?_) (fun j j0 j1 => ?_) (fun z z0 z1 => ?_)⟩
      · rw [ec _ (by omega) (by omega) (by omega) (by omega)]
        exact hB.2.2.1 j j0 j1
      · rw [ec _ (by omega) (by omega) (by omega) (by omega)]
        exact hB.2.2.2 z z1 z2 j j0 j1
      · exact h17 j j0 j1
      · exact h18 z z0 (by omega)
    · have z15 : w4 115 q = w 115 q := (hS 115 q (by decide) (by simp; omega)).trans (by rw [eq1 115 (by omega)])
      have z16 : w4 116 q = w 116 q := (hS 116 q (by decide) (by simp; omega)).trans (by rw [eq1 116 (by omega)])
      rw [z15, z16, eq (73 + 9 * q) (by omega) (by omega) (by omega) (by omega) (by omega)]
      rcases hI.2.2.2.2.2.2.2 q q0 q3 with z | ⟨z1, z2, z3⟩
      · exact Or.inl z
      · refine Or.inr ⟨z1, hM', z3.move (by omega) ⟨by rw [f100], by rw [f100], by rw [f100], f107, f108⟩ (fun j j0 j1 => ?_) (fun z y1 y2 j j0 j1 => ?_) (fun j j0 j1 => ?_) (fun z z0 zz => ?_)⟩
        · rw [eq _ (by omega) (by omega) (by omega) (by omega) (by omega)]
        · rw [eq _ (by omega) (by omega) (by omega) (by omega) (by omega)]
        · exact o17 _ (by omega)
        · have := z3.2.1
          exact o18 _ (by omega)
theorem on_end {w w1 w4 : Hp} {k : Int} (hI : Inv w) (hk : 0 ≤ k ∧ k < 3) (hM : MdOK w) (hL : LR w (73 + 9 * k) (fun j => w 117 (9 * k + j)) (fun j => w 118 (360 * k + j)) (w 116 k)) (hB : BB w w1 3 (73 + 9 * k) 7 8) (hS : SameF w1 w4 [109, 114] [(100, 23)]) (h23 : w4 100 23 = w 116 k) (h9 : ∀ j : Int, 0 ≤ j → j < 9 → w4 109 j = w 117 (9 * k + j)) (h14 : ∀ j : Int, 0 ≤ j → j < 9 * w 116 k → w4 114 j = w 118 (360 * k + j)) : w4 (-2) = w1 (-2) ∧ Inv w4 := by
  have ec : ∀ q : Int, q ≠ 100 → q ≠ 109 → q ≠ 114 → w4 q = w1 q := fun q a b c => hS.cell q (by simp; omega) (by simp; omega)
  have eq1 : ∀ q : Int, q < 3 ∨ 11 < q → w1 q = w q := fun q hq => hB.1 q (by omega)
  have eq : ∀ q : Int, q ≠ 100 → q ≠ 109 → q ≠ 114 → (q < 3 ∨ 11 < q) → w4 q = w q := fun q a b c f => (ec q a b c).trans (eq1 q f)
  have f100 : ∀ j : Int, j ≠ 23 → w4 100 j = w 100 j := fun j hj => (hS 100 j (by decide) (by simp; omega)).trans (by rw [eq1 100 (by omega)])
  have f107 : w4 107 = w 107 := eq 107 (by decide) (by decide) (by decide) (by omega)
  have f108 : w4 108 = w 108 := eq 108 (by decide) (by decide) (by decide) (by omega)
  have hn := hM.2.1
  have hL' : LR w4 3 (w4 109) (w4 114) (w 116 k) := hL.move (by omega) ⟨f100 10 (by decide), f100 11 (by decide), f100 12 (by decide), f107, f108⟩ (fun j j0 j1 => by rw [ec 3 (by decide) (by decide) (by decide)]; exact hB.2.2.1 j j0 j1) (fun z z1 z2 j j0 j1 => by rw [ec _ (by omega) (by omega) (by omega)]; exact hB.2.2.2 z z1 z2 j j0 j1) h9 h14
  have hM' : MdOK w4 := by
    obtain ⟨q1, q2, q3⟩ := hM
    refine ⟨by rw [f100 11 (by decide), f100 12 (by decide)]; exact q1, by rw [f100 10 (by decide)]; exact q2, fun j j0 j1 => ?_⟩
    have hj := (hL'.2.2.2.2.2.1 j j0 j1).2.2.2
    rw [f100 10 (by decide)] at j1
    rw [f107, f108]
    obtain ⟨t1, t2, t3⟩ := q3 j j0 j1
    exact ⟨t1, hj, t3⟩
  have hSs : SameF w w4 LL FL := (hB.same (Or.inl rfl)).tr (hS.mono (fun r hr => by simp at hr; rcases hr with rfl | rfl <;> simp [LL]) (fun q hq => by simp at hq; rw [hq]; simp [FL]))
  refine ⟨ec (-2) (by decide) (by decide) (by decide), hI.land0 hSs ?_ (Or.inr ⟨hM', by rw [h23]; exact hL'⟩) ?_⟩
  · rw [eq 0 (by decide) (by decide) (by decide) (by omega), f100 2 (by decide)]
    exact hI.2.2.2.1
  · exact hI.2.2.2.2.2.2.2.md hM' (fun q a b => eq q (by omega) (by omega) (by omega) (by omega)) ⟨f100 10 (by decide), f100 11 (by decide), f100 12 (by decide)⟩ f107 f108 ⟨eq 115 (by decide) (by decide) (by decide) (by omega), eq 116 (by decide) (by decide) (by decide) (by omega), eq 117 (by decide) (by decide) (by decide) (by omega), eq 118 (by decide) (by decide) (by decide) (by omega)⟩
theorem IKp.emp {w : Hp} (h : IKp w) {k : Int} (h0 : 0 ≤ k) (h3 : k < 3) : (w 115 k = 0 ∧ w (73 + 9 * k) 0 = 0) ∨ (w 115 k = 1 ∧ w (73 + 9 * k) 0 ≠ 0 ∧ MdOK w ∧ LR w (73 + 9 * k) (fun j => w 117 (9 * k + j)) (fun j => w 118 (360 * k + j)) (w 116 k)) := by
  rcases h k h0 h3 with z | ⟨z1, z2, z3⟩
  · exact Or.inl z
  · refine Or.inr ⟨z1, ?_, z2, z3⟩
    have := z3.1.1
    have := z2.1.1
    omega
set_option maxRecDepth 20000 in
set_option maxHeartbeats 4000000 in
theorem c_Land_isEmpty_s {w : Hp} {d : Nat} {q : Int} (hq : LandAt w q) : WP SH (d + 0) 26 0 [some (vR q)] [] w (fun v w' => w' = w ∧ ((v = some (vI 1) ∧ (w q 0 = 0)) ∨ (v = some (vI 0) ∧ ¬ (w q 0 = 0)))) := by
  have hq0 := hq.1.1
  have hqs := hq.1.2
  refine wp_aload_n (pc' := 1) rfl rfl rfl (by omega) ?_
  refine wp_getI (ci := 3) (k0 := 0) (pc' := 4) rfl rfl (by decide) (by first | assumption | rfl) ?_
  refine wp_if_ne (pc' := 7) (pt := 11) rfl rfl rfl (fun q_1 => ?_) (fun q_1 => ?_)
  · skip
    refine wp_iconst (a := 0) (pc' := 12) rfl rfl rfl ?_
    refine wp_ret rfl rfl rfl ?_
    first
    | exact ⟨rfl, Or.inl ⟨rfl, by omega⟩⟩
    | exact ⟨rfl, Or.inr ⟨rfl, by omega⟩⟩
  · skip
    refine wp_iconst (a := 1) (pc' := 8) rfl rfl rfl ?_
    refine wp_goto (pc' := 12) rfl rfl ?_
    refine wp_ret rfl rfl rfl ?_
    first
    | exact ⟨rfl, Or.inl ⟨rfl, by omega⟩⟩
    | exact ⟨rfl, Or.inr ⟨rfl, by omega⟩⟩
set_option maxRecDepth 20000 in
set_option maxHeartbeats 4000000 in
theorem p_keep {w : Hp} {d : Nat} {k : Int} (hI : Inv w) : WP SH (d + 9) 97 0 [some (vR 0), some (vI k)] [] w (fun v0 w1 => ∃ a, v0 = some (vI a) ∧ w1 (-2) = w (-2) ∧ WP SH (d + 9) 195 0 [some (vR 100), some (vI k), none] [] w1 (fun v2 w2 => v2 = some (vI a) ∧ w2 (-2) = w1 (-2) ∧ Inv w2)) := by
  obtain ⟨hT, hRO, hIF, hITo, hIR, hIT, hIL, hIK⟩ := id hI
  obtain ⟨hn25, b11, b12, b10, hn6, hem, m0, m1, m2, m23, hyr, hdd, hpre⟩ := hI.base
  have hmm : w 100 11 * w 100 12 = w 3 0 * w 3 1 := by rw [b11, b12]
  refine wp_iload_n (pc' := 1) rfl rfl rfl ?_
  refine wp_if_lt (pc' := 4) (pt := 9) rfl rfl rfl (fun q_1 => ?_) (fun q_1 => ?_)
  · skip
    refine wp_iconst (a := -1) (pc' := 10) rfl rfl rfl ?_
    refine wp_ret rfl rfl rfl ?_
    refine ⟨_, rfl, ?_, ?_⟩
    · rfl
    refine wp_iload_n (pc' := 1) rfl rfl rfl ?_
    refine wp_iconst (a := 0) (pc' := 2) rfl rfl rfl ?_
    refine wp_iconst (a := 2) (pc' := 3) rfl rfl rfl ?_
    refine wp_call (pc' := 6) rfl rfl rfl rfl rfl ⟨Nat.le_of_ble_eq_true rfl, Nat.le_of_ble_eq_true rfl, Nat.le_of_ble_eq_true rfl, Nat.le_of_ble_eq_true rfl, Nat.le_of_ble_eq_true rfl⟩ rfl (c_Mod_in) ?_
    rintro v1 w9 ⟨hw9, ⟨hv1, hin⟩ | ⟨hv1, hin⟩⟩
    · skip
      rw [hv1, hw9]
      clear hv1 hw9 v1 w9
      dsimp only [Option.toList, List.cons_append, List.nil_append, List.append_nil]
      refine wp_if_ne (pc' := 9) (pt := 11) rfl rfl rfl (fun q_52 => ?_) (fun q_52 => absurd (by decide) q_52)
      refine wp_aload_n (pc' := 12) rfl rfl rfl (by decide) ?_
      refine wp_getI (ci := 10) (k0 := 10) (pc' := 15) rfl rfl (by decide) (by first | assumption | rfl) ?_
      refine wp_if_ne (pc' := 18) (pt := 21) rfl rfl rfl (fun q_53 => ?_) (fun q_53 => ?_)
      · skip
        exfalso; omega
      · skip
        refine wp_bipush (a := -4) (pc' := 20) rfl rfl rfl ?_
        refine wp_ret rfl rfl rfl ?_
        first
        | (exfalso; omega)
        | exact ⟨rfl, rfl, hI⟩
    · skip
      rw [hv1, hw9]
      clear hv1 hw9 v1 w9
      dsimp only [Option.toList, List.cons_append, List.nil_append, List.append_nil]
      refine wp_if_ne (pc' := 9) (pt := 11) rfl rfl rfl (fun q_54 => absurd q_54 (by decide)) (fun q_54 => ?_)
      refine wp_iconst (a := -1) (pc' := 10) rfl rfl rfl ?_
      refine wp_ret rfl rfl rfl ?_
      first
      | (exfalso; omega)
      | exact ⟨rfl, rfl, hI⟩
  · skip
    refine wp_iload_n (pc' := 5) rfl rfl rfl ?_
    refine wp_iconst (a := 3) (pc' := 6) rfl rfl rfl ?_
    refine wp_icmp_lt (pc' := 9) (pt := 11) rfl rfl rfl (fun q_55 => ?_) (fun q_55 => ?_)
    · skip
      refine wp_aload_n (pc' := 12) rfl rfl rfl (by decide) ?_
      refine wp_getR (r' := 3) (ci := 9) (k0 := 2) (pc' := 15) rfl rfl (by decide) (by first | assumption | rfl) (hT.get 2 rfl) ?_
      refine wp_call (pc' := 18) rfl rfl rfl rfl rfl ⟨Nat.le_of_ble_eq_true rfl, Nat.le_of_ble_eq_true rfl, Nat.le_of_ble_eq_true rfl, Nat.le_of_ble_eq_true rfl, Nat.le_of_ble_eq_true rfl⟩ rfl (c_Land_isEmpty_3) ?_
      rintro v1 w9 ⟨hw9, ⟨hv1, he⟩ | ⟨hv1, he⟩⟩
      · skip
        rw [hv1, hw9]
        clear hv1 hw9 v1 w9
        dsimp only [Option.toList, List.cons_append, List.nil_append, List.append_nil]
        refine wp_if_eq (pc' := 21) (pt := 24) rfl rfl rfl (fun q_56 => absurd q_56 (by decide)) (fun q_56 => ?_)
        refine wp_bipush (a := -4) (pc' := 23) rfl rfl rfl ?_
        refine wp_ret rfl rfl rfl ?_
        refine ⟨_, rfl, ?_, ?_⟩
        · rfl
        refine wp_iload_n (pc' := 1) rfl rfl rfl ?_
        refine wp_iconst (a := 0) (pc' := 2) rfl rfl rfl ?_
        refine wp_iconst (a := 2) (pc' := 3) rfl rfl rfl ?_
        refine wp_call (pc' := 6) rfl rfl rfl rfl rfl ⟨Nat.le_of_ble_eq_true rfl, Nat.le_of_ble_eq_true rfl, Nat.le_of_ble_eq_true rfl, Nat.le_of_ble_eq_true rfl, Nat.le_of_ble_eq_true rfl⟩ rfl (c_Mod_in) ?_
        rintro v1 w9 ⟨hw9, ⟨hv1, hin⟩ | ⟨hv1, hin⟩⟩
        · skip
          rw [hv1, hw9]
          clear hv1 hw9 v1 w9
          dsimp only [Option.toList, List.cons_append, List.nil_append, List.append_nil]
          refine wp_if_ne (pc' := 9) (pt := 11) rfl rfl rfl (fun q_107 => ?_) (fun q_107 => absurd (by decide) q_107)
          refine wp_aload_n (pc' := 12) rfl rfl rfl (by decide) ?_
          refine wp_getI (ci := 10) (k0 := 10) (pc' := 15) rfl rfl (by decide) (by first | assumption | rfl) ?_
          refine wp_if_ne (pc' := 18) (pt := 21) rfl rfl rfl (fun q_108 => ?_) (fun q_108 => ?_)
          · skip
            exfalso; omega
          · skip
            refine wp_bipush (a := -4) (pc' := 20) rfl rfl rfl ?_
            refine wp_ret rfl rfl rfl ?_
            first
            | (exfalso; omega)
            | exact ⟨rfl, rfl, hI⟩
        · skip
          rw [hv1, hw9]
          clear hv1 hw9 v1 w9
          dsimp only [Option.toList, List.cons_append, List.nil_append, List.append_nil]
          refine wp_if_ne (pc' := 9) (pt := 11) rfl rfl rfl (fun q_109 => absurd q_109 (by decide)) (fun q_109 => ?_)
          refine wp_iconst (a := -1) (pc' := 10) rfl rfl rfl ?_
          refine wp_ret rfl rfl rfl ?_
          first
          | (exfalso; omega)
          | exact ⟨rfl, rfl, hI⟩
      · skip
        rw [hv1, hw9]
        clear hv1 hw9 v1 w9
        have hpr := hpre (by omega)
        have hn0 : w 3 2 ≠ 0 := by omega
        have hk : 0 ≤ k ∧ k < 3 := by omega
        dsimp only [Option.toList, List.cons_append, List.nil_append, List.append_nil]
        refine wp_if_eq (pc' := 21) (pt := 24) rfl rfl rfl (fun q_110 => ?_) (fun q_110 => absurd (by decide) q_110)
        refine wp_aload_n (pc' := 25) rfl rfl rfl (by decide) ?_
        refine wp_getR (r' := 21) (ci := 9) (k0 := 4) (pc' := 28) rfl rfl (by decide) (by first | assumption | rfl) (hT.get 4 rfl) ?_
        refine wp_iload_n (pc' := 29) rfl rfl rfl ?_
        refine wp_aaload (r' := 73 + 9 * k) (pc' := 30) rfl rfl (by first | assumption | rfl) rfl (by omega) ((land_kept hT (by omega) (by omega)).2) ?_
        refine wp_aload_n (pc' := 31) rfl rfl rfl (by decide) ?_
        refine wp_getR (r' := 3) (ci := 9) (k0 := 2) (pc' := 34) rfl rfl (by decide) (by first | assumption | rfl) (hT.get 2 rfl) ?_
        refine wp_call (pc' := 37) rfl rfl rfl rfl rfl ⟨Nat.le_of_ble_eq_true rfl, Nat.le_of_ble_eq_true rfl, Nat.le_of_ble_eq_true rfl, Nat.le_of_ble_eq_true rfl, Nat.le_of_ble_eq_true rfl⟩ (by have hk7 : k = 0 ∨ k = 1 ∨ k = 2 := (by omega); rcases hk7 with rfl | rfl | rfl <;> rfl) (c_Land_become (land_kept hT hk.1 hk.2).1 (land_at3 hT) (by omega) (by omega) (by omega)) ?_
        rintro v1 w1 ⟨hv1, hB⟩
        rw [hv1]
        clear hv1 v1
        have hSB := hB.same (kept_in hk.1 hk.2)
        have hTw := hT
        have hT := hT.sameF hSB (by decide)
        have eq1 : ∀ q : Int, q < 73 + 9 * k ∨ 81 + 9 * k < q → w1 q = w q := fun q hq => hB.1 q (by omega)
        have g3 : w1 3 = w 3 := eq1 3 (by omega)
        have g100 : w1 100 = w 100 := eq1 100 (by omega)
        have gn : w1 100 10 = w 3 2 := by rw [g100, b10]
        have gm : w1 100 23 = w 3 6 := by rw [g100, m23]
        dsimp only [Option.toList, List.cons_append, List.nil_append, List.append_nil]
        refine wp_aload_n (pc' := 38) rfl rfl rfl (by decide) ?_
        refine wp_getR (r' := 3) (ci := 9) (k0 := 2) (pc' := 41) rfl rfl (by decide) (by first | assumption | rfl) (hT.get 2 rfl) ?_
        refine wp_getI (ci := 3) (k0 := 6) (pc' := 44) rfl rfl (by decide) (by first | assumption | rfl) ?_
        refine wp_ret rfl rfl rfl ?_
        refine ⟨_, rfl, ?_, ?_⟩
        · exact hSB.cell (-2) (by decide) (by decide)
        refine wp_iload_n (pc' := 1) rfl rfl rfl ?_
        refine wp_iconst (a := 0) (pc' := 2) rfl rfl rfl ?_
        refine wp_iconst (a := 2) (pc' := 3) rfl rfl rfl ?_
        refine wp_call (pc' := 6) rfl rfl rfl rfl rfl ⟨Nat.le_of_ble_eq_true rfl, Nat.le_of_ble_eq_true rfl, Nat.le_of_ble_eq_true rfl, Nat.le_of_ble_eq_true rfl, Nat.le_of_ble_eq_true rfl⟩ rfl (c_Mod_in) ?_
        rintro v1 w9 ⟨hw9, ⟨hv1, hin⟩ | ⟨hv1, hin⟩⟩
        · skip
          rw [hv1, hw9]
          clear hv1 hw9 v1 w9
          dsimp only [Option.toList, List.cons_append, List.nil_append, List.append_nil]
          refine wp_if_ne (pc' := 9) (pt := 11) rfl rfl rfl (fun q_161 => ?_) (fun q_161 => absurd (by decide) q_161)
          refine wp_aload_n (pc' := 12) rfl rfl rfl (by decide) ?_
          refine wp_getI (ci := 10) (k0 := 10) (pc' := 15) rfl rfl (by decide) (by first | assumption | rfl) ?_
          refine wp_if_ne (pc' := 18) (pt := 21) rfl rfl rfl (fun q_162 => ?_) (fun q_162 => ?_)
          · skip
            refine wp_aload_n (pc' := 22) rfl rfl rfl (by decide) ?_
            refine wp_getR (r' := 115) (ci := 10) (k0 := 25) (pc' := 25) rfl rfl (by decide) (by first | assumption | rfl) (hT.get 113 rfl) ?_
            refine wp_iload_n (pc' := 26) rfl rfl rfl ?_
            refine wp_iconst (a := 1) (pc' := 27) rfl rfl rfl ?_
            refine wp_bastoreZ (pc' := 28) rfl rfl rfl (by omega) (by omega) ?_
            have hT := hT.putA (r := 115) (i := k) (x := 1) (by decide)
            refine wp_aload_n (pc' := 29) rfl rfl rfl (by decide) ?_
            refine wp_getR (r' := 116) (ci := 10) (k0 := 26) (pc' := 32) rfl rfl (by decide) (by first | assumption | rfl) (hT.get 114 rfl) ?_
            refine wp_iload_n (pc' := 33) rfl rfl rfl ?_
            refine wp_aload_n (pc' := 34) rfl rfl rfl (by decide) ?_
            refine wp_getI (ci := 10) (k0 := 23) (pc' := 37) rfl rfl (by decide) (by first | assumption | rfl) ?_
            refine wp_iastore (pc' := 38) rfl rfl (by first | assumption | rfl) (by omega) ?_
            refine wp_iconst (a := 0) (pc' := 39) rfl rfl rfl ?_
            refine wp_istore_n (pc' := 40) rfl rfl (Nat.le_of_ble_eq_true rfl) rfl ?_
            dsimp only [lset, lset2, List.set, List.getElem?_cons_zero, List.getElem?_cons_succ]
            have hT2 : Stc (up (up w1 115 k 1) 116 k (up w1 115 k 1 100 23)) := hT.putA (by decide)
            refine l_Mkeep1 (w := up (up w1 115 k 1) 116 k (up w1 115 k 1 100 23)) hT2 hk (fun w3 hS3 hz3 hy3 => ?_) 9 0 _ (by decide) (by decide) (Same.rf _ _) (fun j a b => absurd b (by omega)) (fun z hz => rfl)
            have hT3 := hT2.same hS3 (by decide)
            refine wp_iconst (a := 0) (pc' := 70) rfl rfl rfl ?_
            refine wp_istore_n (pc' := 71) rfl rfl (Nat.le_of_ble_eq_true rfl) rfl ?_
            dsimp only [lset, lset2, List.set, List.getElem?_cons_zero, List.getElem?_cons_succ]
            refine l_Mkeep2 (w := w3) (hT3) hk (by rw [hS3 100 (by decide), up_ne (by decide), up_ne (by decide), gm]; omega) (fun w4 hS4 hz4 hy4 => ?_) (9 * w3 100 23).toNat 0 w3 (by decide) (by rw [hS3 100 (by decide), up_ne (by decide), up_ne (by decide), gm]; omega) (Same.rf _ _) (fun j a b => absurd b (by omega)) (fun z hz => rfl)
            refine wp_aload_n (pc' := 107) rfl rfl rfl (by decide) ?_
            refine wp_getI (ci := 10) (k0 := 23) (pc' := 110) rfl rfl (by decide) (by first | assumption | rfl) ?_
            refine wp_ret rfl rfl rfl ?_
            have hed := keep_end (w4 := w4) hI hn0 hk hB ?_ ?_ ?_ ?_ ?_ ?_ ?_
            · exact ⟨by rw [hS4 100 (by decide), hS3 100 (by decide), up_ne (by decide), up_ne (by decide), gm, g3], hed.1, hed.2⟩
            · exact (((SameF.rf w1 _ _).put (Or.inr (by simp))).put (Or.inr (by simp))).tr ((hS3.F _).mono (fun r hr => by simp at hr; simp [hr]) (fun q hq => Or.inl hq) |>.tr ((hS4.F _).mono (fun r hr => by simp at hr; simp [hr]) (fun q hq => Or.inl hq)))
            · rw [hS4 115 (by decide), hS3 115 (by decide), up_ne (by decide), up_eq]
            · rw [hS4 116 (by decide), hS3 116 (by decide), up_eq, up_ne (by decide), gm]
            · intro j j0 j1
              rw [hS4 117 (by decide), hz3 j j0 j1, up_ne (by decide), up_ne (by decide), Int.zero_add, eq1 109 (by omega)]
            · intro z hz
              rw [hS4 117 (by decide), hy3 z hz, up_ne (by decide), up_ne (by decide), eq1 117 (by omega)]
            · intro j j0 j1
              rw [hz4 j j0 (by rw [hS3 100 (by decide), up_ne (by decide), up_ne (by decide), gm]; exact j1), hS3 114 (by decide), up_ne (by decide), up_ne (by decide), Int.zero_add, eq1 114 (by omega)]
            · intro z hz
              rw [hy4 z (by rw [hS3 100 (by decide), up_ne (by decide), up_ne (by decide), gm]; exact hz), hS3 118 (by decide), up_ne (by decide), up_ne (by decide), eq1 118 (by omega)]
          · skip
            refine wp_bipush (a := -4) (pc' := 20) rfl rfl rfl ?_
            refine wp_ret rfl rfl rfl ?_
            first
            | (exfalso; omega)
            | exact ⟨rfl, rfl, hI⟩
        · skip
          rw [hv1, hw9]
          clear hv1 hw9 v1 w9
          dsimp only [Option.toList, List.cons_append, List.nil_append, List.append_nil]
          refine wp_if_ne (pc' := 9) (pt := 11) rfl rfl rfl (fun q_203 => absurd q_203 (by decide)) (fun q_203 => ?_)
          refine wp_iconst (a := -1) (pc' := 10) rfl rfl rfl ?_
          refine wp_ret rfl rfl rfl ?_
          first
          | (exfalso; omega)
          | exact ⟨rfl, rfl, hI⟩
    · skip
      refine wp_iconst (a := -1) (pc' := 10) rfl rfl rfl ?_
      refine wp_ret rfl rfl rfl ?_
      refine ⟨_, rfl, ?_, ?_⟩
      · rfl
      refine wp_iload_n (pc' := 1) rfl rfl rfl ?_
      refine wp_iconst (a := 0) (pc' := 2) rfl rfl rfl ?_
      refine wp_iconst (a := 2) (pc' := 3) rfl rfl rfl ?_
      refine wp_call (pc' := 6) rfl rfl rfl rfl rfl ⟨Nat.le_of_ble_eq_true rfl, Nat.le_of_ble_eq_true rfl, Nat.le_of_ble_eq_true rfl, Nat.le_of_ble_eq_true rfl, Nat.le_of_ble_eq_true rfl⟩ rfl (c_Mod_in) ?_
      rintro v1 w9 ⟨hw9, ⟨hv1, hin⟩ | ⟨hv1, hin⟩⟩
      · skip
        rw [hv1, hw9]
        clear hv1 hw9 v1 w9
        dsimp only [Option.toList, List.cons_append, List.nil_append, List.append_nil]
        refine wp_if_ne (pc' := 9) (pt := 11) rfl rfl rfl (fun q_254 => ?_) (fun q_254 => absurd (by decide) q_254)
        refine wp_aload_n (pc' := 12) rfl rfl rfl (by decide) ?_
        refine wp_getI (ci := 10) (k0 := 10) (pc' := 15) rfl rfl (by decide) (by first | assumption | rfl) ?_
        refine wp_if_ne (pc' := 18) (pt := 21) rfl rfl rfl (fun q_255 => ?_) (fun q_255 => ?_)
        · skip
          exfalso; omega
        · skip
          refine wp_bipush (a := -4) (pc' := 20) rfl rfl rfl ?_
          refine wp_ret rfl rfl rfl ?_
          first
          | (exfalso; omega)
          | exact ⟨rfl, rfl, hI⟩
      · skip
        rw [hv1, hw9]
        clear hv1 hw9 v1 w9
        dsimp only [Option.toList, List.cons_append, List.nil_append, List.append_nil]
        refine wp_if_ne (pc' := 9) (pt := 11) rfl rfl rfl (fun q_256 => absurd q_256 (by decide)) (fun q_256 => ?_)
        refine wp_iconst (a := -1) (pc' := 10) rfl rfl rfl ?_
        refine wp_ret rfl rfl rfl ?_
        first
        | (exfalso; omega)
        | exact ⟨rfl, rfl, hI⟩
set_option maxRecDepth 20000 in
set_option maxHeartbeats 4000000 in
theorem p_on {w : Hp} {d : Nat} {k : Int} (hI : Inv w) : WP SH (d + 9) 98 0 [some (vR 0), some (vI k)] [] w (fun v0 w1 => ∃ a, v0 = some (vI a) ∧ w1 (-2) = w (-2) ∧ WP SH (d + 9) 196 0 [some (vR 100), some (vI k), none] [] w1 (fun v2 w2 => v2 = some (vI a) ∧ w2 (-2) = w1 (-2) ∧ Inv w2)) := by
  obtain ⟨hT, hRO, hIF, hITo, hIR, hIT, hIL, hIK⟩ := id hI
  obtain ⟨hn25, b11, b12, b10, hn6, hem, m0, m1, m2, m23, hyr, hdd, hpre⟩ := hI.base
  have hmm : w 100 11 * w 100 12 = w 3 0 * w 3 1 := by rw [b11, b12]
  refine wp_iload_n (pc' := 1) rfl rfl rfl ?_
  refine wp_if_lt (pc' := 4) (pt := 9) rfl rfl rfl (fun q_1 => ?_) (fun q_1 => ?_)
  · skip
    refine wp_iconst (a := -1) (pc' := 10) rfl rfl rfl ?_
    refine wp_ret rfl rfl rfl ?_
    refine ⟨_, rfl, ?_, ?_⟩
    · rfl
    refine wp_iload_n (pc' := 1) rfl rfl rfl ?_
    refine wp_iconst (a := 0) (pc' := 2) rfl rfl rfl ?_
    refine wp_iconst (a := 2) (pc' := 3) rfl rfl rfl ?_
    refine wp_call (pc' := 6) rfl rfl rfl rfl rfl ⟨Nat.le_of_ble_eq_true rfl, Nat.le_of_ble_eq_true rfl, Nat.le_of_ble_eq_true rfl, Nat.le_of_ble_eq_true rfl, Nat.le_of_ble_eq_true rfl⟩ rfl (c_Mod_in) ?_
    rintro v1 w9 ⟨hw9, ⟨hv1, hin⟩ | ⟨hv1, hin⟩⟩
    · skip
      rw [hv1, hw9]
      clear hv1 hw9 v1 w9
      dsimp only [Option.toList, List.cons_append, List.nil_append, List.append_nil]
      refine wp_if_ne (pc' := 9) (pt := 11) rfl rfl rfl (fun q_52 => ?_) (fun q_52 => absurd (by decide) q_52)
      exfalso; omega
    · skip
      rw [hv1, hw9]
      clear hv1 hw9 v1 w9
      dsimp only [Option.toList, List.cons_append, List.nil_append, List.append_nil]
      refine wp_if_ne (pc' := 9) (pt := 11) rfl rfl rfl (fun q_53 => absurd q_53 (by decide)) (fun q_53 => ?_)
      refine wp_iconst (a := -1) (pc' := 10) rfl rfl rfl ?_
      refine wp_ret rfl rfl rfl ?_
      first
      | (exfalso; omega)
      | exact ⟨rfl, rfl, hI⟩
      | exact ⟨rfl, by rw [up_ne (by decide), up_ne (by decide)]; rfl, refW_inv hI (by decide)⟩
  · skip
    refine wp_iload_n (pc' := 5) rfl rfl rfl ?_
    refine wp_iconst (a := 3) (pc' := 6) rfl rfl rfl ?_
    refine wp_icmp_lt (pc' := 9) (pt := 11) rfl rfl rfl (fun q_54 => ?_) (fun q_54 => ?_)
    · skip
      refine wp_aload_n (pc' := 12) rfl rfl rfl (by decide) ?_
      refine wp_getR (r' := 21) (ci := 9) (k0 := 4) (pc' := 15) rfl rfl (by decide) (by first | assumption | rfl) (hT.get 4 rfl) ?_
      refine wp_iload_n (pc' := 16) rfl rfl rfl ?_
      refine wp_aaload (r' := 73 + 9 * k) (pc' := 17) rfl rfl (by first | assumption | rfl) rfl (by omega) ((land_kept hT (by omega) (by omega)).2) ?_
      refine wp_call (pc' := 20) rfl rfl rfl rfl rfl ⟨Nat.le_of_ble_eq_true rfl, Nat.le_of_ble_eq_true rfl, Nat.le_of_ble_eq_true rfl, Nat.le_of_ble_eq_true rfl, Nat.le_of_ble_eq_true rfl⟩ (by have hk7 : k = 0 ∨ k = 1 ∨ k = 2 := (by omega); rcases hk7 with rfl | rfl | rfl <;> rfl) (c_Land_isEmpty_s (land_kept hT (by omega) (by omega)).1) ?_
      rintro v1 w9 ⟨hw9, ⟨hv1, he⟩ | ⟨hv1, he⟩⟩
      · skip
        rw [hv1, hw9]
        clear hv1 hw9 v1 w9
        have hk : 0 ≤ k ∧ k < 3 := by omega
        have hke := hIK.emp hk.1 hk.2
        have hk0 : w 115 k = 0 := by omega
        dsimp only [Option.toList, List.cons_append, List.nil_append, List.append_nil]
        refine wp_if_eq (pc' := 23) (pt := 29) rfl rfl rfl (fun q_55 => absurd q_55 (by decide)) (fun q_55 => ?_)
        refine wp_aload_n (pc' := 24) rfl rfl rfl (by decide) ?_
        refine wp_iconst (a := 1) (pc' := 25) rfl rfl rfl ?_
        refine wp_call (pc' := 28) rfl rfl rfl rfl rfl ⟨Nat.le_of_ble_eq_true rfl, Nat.le_of_ble_eq_true rfl, Nat.le_of_ble_eq_true rfl, Nat.le_of_ble_eq_true rfl, Nat.le_of_ble_eq_true rfl⟩ rfl (c_VH_refuse hT (by decide)) ?_
        intro v1 w9 hq1
        rw [hq1.1, hq1.2]
        clear hq1 v1 w9
        dsimp only [Option.toList, List.cons_append, List.nil_append, List.append_nil]
        refine wp_ret rfl rfl rfl ?_
        refine ⟨_, rfl, ?_, ?_⟩
        · rw [up_ne (by decide), up_ne (by decide)]
        change WP SH _ _ _ _ _ (refW w 1) _
        have hT := refW_stc (f := 1) hT
        have hk0b : refW w 1 115 k = 0 := by rw [refW_ne (by decide) (by decide)]; exact hk0
        refine wp_iload_n (pc' := 1) rfl rfl rfl ?_
        refine wp_iconst (a := 0) (pc' := 2) rfl rfl rfl ?_
        refine wp_iconst (a := 2) (pc' := 3) rfl rfl rfl ?_
        refine wp_call (pc' := 6) rfl rfl rfl rfl rfl ⟨Nat.le_of_ble_eq_true rfl, Nat.le_of_ble_eq_true rfl, Nat.le_of_ble_eq_true rfl, Nat.le_of_ble_eq_true rfl, Nat.le_of_ble_eq_true rfl⟩ rfl (c_Mod_in) ?_
        rintro v1 w9 ⟨hw9, ⟨hv1, hin⟩ | ⟨hv1, hin⟩⟩
        · skip
          rw [hv1, hw9]
          clear hv1 hw9 v1 w9
          dsimp only [Option.toList, List.cons_append, List.nil_append, List.append_nil]
          refine wp_if_ne (pc' := 9) (pt := 11) rfl rfl rfl (fun q_106 => ?_) (fun q_106 => absurd (by decide) q_106)
          refine wp_aload_n (pc' := 12) rfl rfl rfl (by decide) ?_
          refine wp_getR (r' := 115) (ci := 10) (k0 := 25) (pc' := 15) rfl rfl (by decide) (by first | assumption | rfl) (hT.get 113 rfl) ?_
          refine wp_iload_n (pc' := 16) rfl rfl rfl ?_
          refine wp_baload (pc' := 17) rfl rfl (by first | assumption | rfl) rfl (by omega) ?_
          refine wp_if_ne (pc' := 20) (pt := 26) rfl rfl rfl (fun q_107 => ?_) (fun q_107 => ?_)
          · skip
            exfalso
            omega
          · skip
            refine wp_aload_n (pc' := 21) rfl rfl rfl (by decide) ?_
            refine wp_iconst (a := 1) (pc' := 22) rfl rfl rfl ?_
            refine wp_call (pc' := 25) rfl rfl rfl rfl rfl ⟨Nat.le_of_ble_eq_true rfl, Nat.le_of_ble_eq_true rfl, Nat.le_of_ble_eq_true rfl, Nat.le_of_ble_eq_true rfl, Nat.le_of_ble_eq_true rfl⟩ rfl (c_Mod_meets hT (by decide)) ?_
            intro v1 w9 hq1
            rw [hq1.1, hq1.2]
            clear hq1 v1 w9
            dsimp only [Option.toList, List.cons_append, List.nil_append, List.append_nil]
            refine wp_ret rfl rfl rfl ?_
            first
            | (exfalso; omega)
            | exact ⟨rfl, rfl, hI⟩
            | exact ⟨rfl, by rw [up_ne (by decide), up_ne (by decide)]; rfl, refW_inv hI (by decide)⟩
        · skip
          rw [hv1, hw9]
          clear hv1 hw9 v1 w9
          dsimp only [Option.toList, List.cons_append, List.nil_append, List.append_nil]
          refine wp_if_ne (pc' := 9) (pt := 11) rfl rfl rfl (fun q_108 => absurd q_108 (by decide)) (fun q_108 => ?_)
          refine wp_iconst (a := -1) (pc' := 10) rfl rfl rfl ?_
          refine wp_ret rfl rfl rfl ?_
          first
          | (exfalso; omega)
          | exact ⟨rfl, rfl, hI⟩
          | exact ⟨rfl, by rw [up_ne (by decide), up_ne (by decide)]; rfl, refW_inv hI (by decide)⟩
      · skip
        rw [hv1, hw9]
        clear hv1 hw9 v1 w9
        have hk : 0 ≤ k ∧ k < 3 := by omega
        have hke := hIK.emp hk.1 hk.2
        obtain ⟨hk1, hkn, hkM, hkL⟩ := hke.resolve_left (fun z => he z.2)
        have hkm := hkL.2.1
        have hk6 := hkL.1.2.2.2.2.2.2
        have hk2 := hkL.1.2.2.1
        have hkn6 := hkM.2.1
        dsimp only [Option.toList, List.cons_append, List.nil_append, List.append_nil]
        refine wp_if_eq (pc' := 23) (pt := 29) rfl rfl rfl (fun q_109 => ?_) (fun q_109 => absurd (by decide) q_109)
        refine wp_aload_n (pc' := 30) rfl rfl rfl (by decide) ?_
        refine wp_getR (r' := 3) (ci := 9) (k0 := 2) (pc' := 33) rfl rfl (by decide) (by first | assumption | rfl) (hT.get 2 rfl) ?_
        refine wp_aload_n (pc' := 34) rfl rfl rfl (by decide) ?_
        refine wp_getR (r' := 21) (ci := 9) (k0 := 4) (pc' := 37) rfl rfl (by decide) (by first | assumption | rfl) (hT.get 4 rfl) ?_
        refine wp_iload_n (pc' := 38) rfl rfl rfl ?_
        refine wp_aaload (r' := 73 + 9 * k) (pc' := 39) rfl rfl (by first | assumption | rfl) rfl (by omega) ((land_kept hT (by omega) (by omega)).2) ?_
        refine wp_call (pc' := 42) rfl rfl rfl rfl rfl ⟨Nat.le_of_ble_eq_true rfl, Nat.le_of_ble_eq_true rfl, Nat.le_of_ble_eq_true rfl, Nat.le_of_ble_eq_true rfl, Nat.le_of_ble_eq_true rfl⟩ rfl (c_Land_become (land_at3 hT) (land_kept hT hk.1 hk.2).1 (by omega) (by omega) (by omega)) ?_
        rintro v1 w1 ⟨hv1, hB⟩
        rw [hv1]
        clear hv1 v1
        have hSB := hB.same (Or.inl rfl)
        have hT := hT.sameF hSB (by decide)
        have eq1 : ∀ q : Int, q < 3 ∨ 11 < q → w1 q = w q := fun q hq => hB.1 q (by omega)
        have g15 : w1 115 = w 115 := eq1 115 (by omega)
        dsimp only [Option.toList, List.cons_append, List.nil_append, List.append_nil]
        refine wp_aload_n (pc' := 43) rfl rfl rfl (by decide) ?_
        refine wp_getR (r' := 3) (ci := 9) (k0 := 2) (pc' := 46) rfl rfl (by decide) (by first | assumption | rfl) (hT.get 2 rfl) ?_
        refine wp_getI (ci := 3) (k0 := 6) (pc' := 49) rfl rfl (by decide) (by first | assumption | rfl) ?_
        refine wp_ret rfl rfl rfl ?_
        refine ⟨_, rfl, ?_, ?_⟩
        · exact hSB.cell (-2) (by decide) (by decide)
        have hk1b : w1 115 k = 1 := by rw [g15]; exact hk1
        refine wp_iload_n (pc' := 1) rfl rfl rfl ?_
        refine wp_iconst (a := 0) (pc' := 2) rfl rfl rfl ?_
        refine wp_iconst (a := 2) (pc' := 3) rfl rfl rfl ?_
        refine wp_call (pc' := 6) rfl rfl rfl rfl rfl ⟨Nat.le_of_ble_eq_true rfl, Nat.le_of_ble_eq_true rfl, Nat.le_of_ble_eq_true rfl, Nat.le_of_ble_eq_true rfl, Nat.le_of_ble_eq_true rfl⟩ rfl (c_Mod_in) ?_
        rintro v1 w9 ⟨hw9, ⟨hv1, hin⟩ | ⟨hv1, hin⟩⟩
        · skip
          rw [hv1, hw9]
          clear hv1 hw9 v1 w9
          dsimp only [Option.toList, List.cons_append, List.nil_append, List.append_nil]
          refine wp_if_ne (pc' := 9) (pt := 11) rfl rfl rfl (fun q_160 => ?_) (fun q_160 => absurd (by decide) q_160)
          refine wp_aload_n (pc' := 12) rfl rfl rfl (by decide) ?_
          refine wp_getR (r' := 115) (ci := 10) (k0 := 25) (pc' := 15) rfl rfl (by decide) (by first | assumption | rfl) (hT.get 113 rfl) ?_
          refine wp_iload_n (pc' := 16) rfl rfl rfl ?_
          refine wp_baload (pc' := 17) rfl rfl (by first | assumption | rfl) rfl (by omega) ?_
          refine wp_if_ne (pc' := 20) (pt := 26) rfl rfl rfl (fun q_161 => ?_) (fun q_161 => ?_)
          · skip
            refine wp_aload_n (pc' := 27) rfl rfl rfl (by decide) ?_
            refine wp_aload_n (pc' := 28) rfl rfl rfl (by decide) ?_
            refine wp_getR (r' := 116) (ci := 10) (k0 := 26) (pc' := 31) rfl rfl (by decide) (by first | assumption | rfl) (hT.get 114 rfl) ?_
            refine wp_iload_n (pc' := 32) rfl rfl rfl ?_
            refine wp_iaload (pc' := 33) rfl rfl (by first | assumption | rfl) (by omega) ?_
            refine wp_putI (ci := 10) (k0 := 23) (pc' := 36) rfl rfl (by decide) (by first | assumption | rfl) ?_
            refine wp_iconst (a := 0) (pc' := 37) rfl rfl rfl ?_
            refine wp_istore_n (pc' := 38) rfl rfl (Nat.le_of_ble_eq_true rfl) rfl ?_
            dsimp only [lset, lset2, List.set, List.getElem?_cons_zero, List.getElem?_cons_succ]
            have hT2 : Stc (up w1 100 23 (w1 116 k)) := hT.putF (by decide)
            refine l_Mon1 (w := up w1 100 23 (w1 116 k)) hT2 hk (fun w3 hS3 hz3 hy3 => ?_) 9 0 _ (by decide) (by decide) (Same.rf _ _) (fun j a b => absurd b (by omega)) (fun z hz => rfl)
            have hT3 := hT2.same hS3 (by decide)
            refine wp_iconst (a := 0) (pc' := 68) rfl rfl rfl ?_
            refine wp_istore_n (pc' := 69) rfl rfl (Nat.le_of_ble_eq_true rfl) rfl ?_
            dsimp only [lset, lset2, List.set, List.getElem?_cons_zero, List.getElem?_cons_succ]
            refine l_Mon2 (w := w3) hT3 hk (by rw [hS3 100 (by decide), up_eq, eq1 116 (by omega)]; exact hkm) (fun w4 hS4 hz4 hy4 => ?_) (9 * w3 100 23).toNat 0 w3 (by decide) (by rw [hS3 100 (by decide), up_eq, eq1 116 (by omega)]; omega) (Same.rf _ _) (fun j a b => absurd b (by omega)) (fun z hz => rfl)
            refine wp_aload_n (pc' := 105) rfl rfl rfl (by decide) ?_
            refine wp_getI (ci := 10) (k0 := 23) (pc' := 108) rfl rfl (by decide) (by first | assumption | rfl) ?_
            refine wp_ret rfl rfl rfl ?_
            have hed := on_end (w4 := w4) hI hk hkM hkL hB ?_ ?_ ?_ ?_
            · exact ⟨by rw [hS4 100 (by decide), hS3 100 (by decide), up_eq, eq1 116 (by omega), hB.2.2.1 6 (by decide) (by decide), hk6], hed.1, hed.2⟩
            · exact ((SameF.rf w1 _ _).put (Or.inr (by simp))).tr ((hS3.F _).mono (fun r hr => by simp at hr; simp [hr]) (fun q hq => Or.inl hq) |>.tr ((hS4.F _).mono (fun r hr => by simp at hr; simp [hr]) (fun q hq => Or.inl hq)))
            · rw [hS4 100 (by decide), hS3 100 (by decide), up_eq, eq1 116 (by omega)]
            · intro j j0 j1
              have := hz3 j j0 j1
              rw [Int.zero_add, up_ne (by decide), eq1 117 (by omega)] at this
              rw [hS4 109 (by decide), this]
            · intro j j0 j1
              have := hz4 j j0 (by rw [hS3 100 (by decide), up_eq, eq1 116 (by omega)]; exact j1)
              rw [Int.zero_add, hS3 118 (by decide), up_ne (by decide), eq1 118 (by omega)] at this
              exact this
          · skip
            exfalso
            rw [g15] at *
            omega
        · skip
          rw [hv1, hw9]
          clear hv1 hw9 v1 w9
          dsimp only [Option.toList, List.cons_append, List.nil_append, List.append_nil]
          refine wp_if_ne (pc' := 9) (pt := 11) rfl rfl rfl (fun q_202 => absurd q_202 (by decide)) (fun q_202 => ?_)
          refine wp_iconst (a := -1) (pc' := 10) rfl rfl rfl ?_
          refine wp_ret rfl rfl rfl ?_
          first
          | (exfalso; omega)
          | exact ⟨rfl, rfl, hI⟩
          | exact ⟨rfl, by rw [up_ne (by decide), up_ne (by decide)]; rfl, refW_inv hI (by decide)⟩
    · skip
      refine wp_iconst (a := -1) (pc' := 10) rfl rfl rfl ?_
      refine wp_ret rfl rfl rfl ?_
      refine ⟨_, rfl, ?_, ?_⟩
      · rfl
      refine wp_iload_n (pc' := 1) rfl rfl rfl ?_
      refine wp_iconst (a := 0) (pc' := 2) rfl rfl rfl ?_
      refine wp_iconst (a := 2) (pc' := 3) rfl rfl rfl ?_
      refine wp_call (pc' := 6) rfl rfl rfl rfl rfl ⟨Nat.le_of_ble_eq_true rfl, Nat.le_of_ble_eq_true rfl, Nat.le_of_ble_eq_true rfl, Nat.le_of_ble_eq_true rfl, Nat.le_of_ble_eq_true rfl⟩ rfl (c_Mod_in) ?_
      rintro v1 w9 ⟨hw9, ⟨hv1, hin⟩ | ⟨hv1, hin⟩⟩
      · skip
        rw [hv1, hw9]
        clear hv1 hw9 v1 w9
        dsimp only [Option.toList, List.cons_append, List.nil_append, List.append_nil]
        refine wp_if_ne (pc' := 9) (pt := 11) rfl rfl rfl (fun q_253 => ?_) (fun q_253 => absurd (by decide) q_253)
        exfalso; omega
      · skip
        rw [hv1, hw9]
        clear hv1 hw9 v1 w9
        dsimp only [Option.toList, List.cons_append, List.nil_append, List.append_nil]
        refine wp_if_ne (pc' := 9) (pt := 11) rfl rfl rfl (fun q_254 => absurd q_254 (by decide)) (fun q_254 => ?_)
        refine wp_iconst (a := -1) (pc' := 10) rfl rfl rfl ?_
        refine wp_ret rfl rfl rfl ?_
        first
        | (exfalso; omega)
        | exact ⟨rfl, rfl, hI⟩
        | exact ⟨rfl, by rw [up_ne (by decide), up_ne (by decide)]; rfl, refW_inv hI (by decide)⟩
