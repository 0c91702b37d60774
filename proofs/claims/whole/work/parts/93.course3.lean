/-! course: the reference goes through all codes -/
set_option maxRecDepth 20000 in
set_option maxHeartbeats 4000000 in
theorem l_figs {w : Hp} {d : Nat} {n : Int} {m : Nat} (hT0 : Stc w) (hm : m < 3125) (hn : 0 ≤ n ∧ n ≤ 5) {Q : Option PV → Hp → Prop} (K : ∀ (w1 : Hp) (l3 l4 : Int), Same w w1 [120] → (∀ q : Int, 0 ≤ q → q < n → w1 120 q = dg m (n - 1 - q).toNat) → WP SH d 205 32 [some (vR 100), some (vI (m : Int)), some (vI n), some (vI l3), some (vI l4), none, none, none, none] [] w1 Q) : ∀ (k i : Nat) (y left : Int) (w1 : Hp), y = (k : Int) - 1 → (k : Int) + i = n → left = ((m / 5 ^ i : Nat) : Int) → Same w w1 [120] → (∀ q : Int, y < q → q < n → w1 120 q = dg m (n - 1 - q).toNat) → WP SH d 205 7 [some (vR 100), some (vI (m : Int)), some (vI n), some (vI left), some (vI y), none, none, none, none] [] w1 Q := by
  intro k
  induction k with
  | zero =>
    intro i y left w1 hy hji hleft hS hz
    have hT := hT0.same hS (by decide)
    have hle : m / 5 ^ i ≤ m := Nat.div_le_self _ _
    obtain ⟨qq, hqq⟩ : ∃ qq, qq = m / 5 ^ i := ⟨_, rfl⟩
    rw [← hqq] at hleft hle
    have hlb : 0 ≤ left ∧ left < 3125 := by omega
    refine wp_iload (pc' := 9) rfl rfl rfl ?_
    refine wp_if_lt (pc' := 12) (pt := 32) rfl rfl rfl (fun q_1 => ?_) (fun q_1 => ?_)
    · skip
      exact K w1 _ _ hS (fun q q0 q1 => hz q (by omega) q1)
    · skip
      exfalso; omega
  | succ k ih =>
    intro i y left w1 hy hji hleft hS hz
    have hT := hT0.same hS (by decide)
    have hle : m / 5 ^ i ≤ m := Nat.div_le_self _ _
    obtain ⟨qq, hqq⟩ : ∃ qq, qq = m / 5 ^ i := ⟨_, rfl⟩
    rw [← hqq] at hleft hle
    have hlb : 0 ≤ left ∧ left < 3125 := by omega
    refine wp_iload (pc' := 9) rfl rfl rfl ?_
    refine wp_if_lt (pc' := 12) (pt := 32) rfl rfl rfl (fun q_1 => ?_) (fun q_1 => ?_)
    · skip
      exfalso; omega
    · skip
      refine wp_aload_n (pc' := 13) rfl rfl rfl (by decide) ?_
      refine wp_getR (r' := 120) (ci := 10) (k0 := 30) (pc' := 16) rfl rfl (by decide) (by first | assumption | rfl) (hT.get 118 rfl) ?_
      refine wp_iload (pc' := 18) rfl rfl rfl ?_
      refine wp_iload_n (pc' := 19) rfl rfl rfl ?_
      refine wp_iconst (a := 5) (pc' := 20) rfl rfl rfl ?_
      refine wp_irem (pc' := 21) rfl rfl (by omega) (by first | exact iRem_pos (by omega) (by omega) (by omega) | rfl) ?_
      refine wp_iastore (pc' := 22) rfl rfl (by first | assumption | rfl) (by omega) ?_
      refine wp_iload_n (pc' := 23) rfl rfl rfl ?_
      refine wp_iconst (a := 5) (pc' := 24) rfl rfl rfl ?_
      refine wp_idiv (pc' := 25) rfl rfl (by omega) (by first | exact iDiv_pos (by omega) (by omega) (by omega) | rfl) ?_
      refine wp_istore_n (pc' := 26) rfl rfl (Nat.le_of_ble_eq_true rfl) rfl ?_
      dsimp only [lset, lset2, List.set, List.getElem?_cons_zero, List.getElem?_cons_succ]
      refine wp_iinc (pc' := 29) rfl rfl rfl (inc_id (by omega) (by omega)) rfl ?_
      dsimp only [lset, lset2, List.set, List.getElem?_cons_zero, List.getElem?_cons_succ]
      refine wp_goto (pc' := 7) rfl rfl ?_
      refine ih (i + 1) _ _ _ (by omega) (by omega) ?_ (hS.put (by decide)) (fun q q0 q1 => ?_)
      · rw [Nat.pow_succ, ← Nat.div_div_eq_div_mul, ← hqq]
        omega
      · by_cases hq : q = y
        · rw [hq, up_eq, show (n - 1 - y).toNat = i by omega]
          unfold dg
          rw [← hqq]
          omega
        · rw [up_at hq]
          exact hz q (by omega) q1
set_option maxRecDepth 20000 in
set_option maxHeartbeats 4000000 in
theorem l_gains {w : Hp} {d : Nat} {n : Int} {m : Nat} {l3 : Int} {x1 : Option PV} (hT : Stc w) (hl : MdOK w) (hn : 0 ≤ n ∧ n ≤ 5) (hw : ∀ q : Int, 0 ≤ q → q < n → w 120 q = dg m (n - 1 - q).toNat) (hWb : ∀ x : Int, Cel (w 100 11) (w 100 12) x → 0 ≤ (fun x => sumI (fWorth (w 100 11) (w 107) (fun i => w 109 (3 + i)) (w 108) x) (w 100 10)) x ∧ (fun x => sumI (fWorth (w 100 11) (w 107) (fun i => w 109 (3 + i)) (w 108) x) (w 100 10)) x ≤ 972) : ∀ (k : Nat) (y cell back s R : Int) (x8 : Option PV), 0 ≤ y → y + k = n → Cel (w 100 11) (w 100 12) cell → ((0 ≤ s ∧ s ≤ 972 * y ∧ R = gv (w 100 11) (w 100 12) (fun x => sumI (fWorth (w 100 11) (w 107) (fun i => w 109 (3 + i)) (w 108) x) (w 100 10)) m k cell back s) ∨ (s = -1 ∧ R = -1)) → WP SH (d + 5) 205 54 [some (vR 100), x1, some (vI n), some (vI l3), some (vI cell), some (vI back), some (vI s), some (vI y), x8] [] w (fun v w' => v = some (vI R) ∧ w' = w) := by
  intro k
  induction k with
  | zero =>
    intro y cell back s R x8 h0 hyj hx hs
    refine wp_iload (pc' := 56) rfl rfl rfl ?_
    refine wp_iload_n (pc' := 57) rfl rfl rfl ?_
    refine wp_icmp_ge (pc' := 60) (pt := 145) rfl rfl rfl (fun q_1 => ?_) (fun q_1 => ?_)
    · skip
      refine wp_iload (pc' := 147) rfl rfl rfl ?_
      refine wp_ret rfl rfl rfl ?_
      refine ⟨congrArg (fun z => some (vI z)) ?_, rfl⟩
      rcases hs with ⟨-, -, hs⟩ | ⟨hs1, hs2⟩
      · exact hs.symm
      · rw [hs1, hs2]
    · skip
      exfalso; omega
  | succ k ih =>
    intro y cell back s R x8 h0 hyj hx hs
    have hwy : w 120 y = dg m k := by rw [hw y h0 (by omega), show (n - 1 - y).toNat = k by omega]
    have hdi := dg_in m k
    refine wp_iload (pc' := 56) rfl rfl rfl ?_
    refine wp_iload_n (pc' := 57) rfl rfl rfl ?_
    refine wp_icmp_ge (pc' := 60) (pt := 145) rfl rfl rfl (fun q_1 => ?_) (fun q_1 => ?_)
    · skip
      refine wp_iload (pc' := 147) rfl rfl rfl ?_
      refine wp_ret rfl rfl rfl ?_
      first
      | (exfalso; omega)
      | (refine ⟨congrArg (fun z => some (vI z)) ?_, rfl⟩; omega)
    · skip
      refine wp_iload (pc' := 62) rfl rfl rfl ?_
      refine wp_if_lt (pc' := 65) (pt := 145) rfl rfl rfl (fun q_2 => ?_) (fun q_2 => ?_)
      · skip
        refine wp_iload (pc' := 147) rfl rfl rfl ?_
        refine wp_ret rfl rfl rfl ?_
        first
        | (exfalso; omega)
        | (refine ⟨congrArg (fun z => some (vI z)) ?_, rfl⟩; omega)
      · skip
        refine wp_aload_n (pc' := 66) rfl rfl rfl (by decide) ?_
        refine wp_iload (pc' := 68) rfl rfl rfl ?_
        refine wp_iload (pc' := 70) rfl rfl rfl ?_
        refine wp_aload_n (pc' := 71) rfl rfl rfl (by decide) ?_
        refine wp_getR (r' := 120) (ci := 10) (k0 := 30) (pc' := 74) rfl rfl (by decide) (by first | assumption | rfl) (hT.get 118 rfl) ?_
        refine wp_iload (pc' := 76) rfl rfl rfl ?_
        refine wp_iaload (pc' := 77) rfl rfl (by first | assumption | rfl) (by omega) ?_
        rw [hwy]
        refine wp_call (pc' := 80) rfl rfl rfl rfl rfl ⟨Nat.le_of_ble_eq_true rfl, Nat.le_of_ble_eq_true rfl, Nat.le_of_ble_eq_true rfl, Nat.le_of_ble_eq_true rfl, Nat.le_of_ble_eq_true rfl⟩ rfl (c_Mod_canBe hl.1 hdi hx) ?_
        rintro v1 w9 ⟨hw9, ⟨hv1, hcg⟩ | ⟨hv1, hcg⟩⟩
        · skip
          rw [hv1, hw9]
          clear hv1 hw9 v1 w9
          have hx2 := cgo_cel hl.1 hx hcg
          have hwx := hWb _ hx2
          have hgv : gv (w 100 11) (w 100 12) (fun x => sumI (fWorth (w 100 11) (w 107) (fun i => w 109 (3 + i)) (w 108) x) (w 100 10)) m (k + 1) cell back s = gv (w 100 11) (w 100 12) (fun x => sumI (fWorth (w 100 11) (w 107) (fun i => w 109 (3 + i)) (w 108) x) (w 100 10)) m k (sBeside (w 100 11) (w 100 12) cell (dg m k)) (sAgainst (dg m k)) (s + (fun x => sumI (fWorth (w 100 11) (w 107) (fun i => w 109 (3 + i)) (w 108) x) (w 100 10)) (sBeside (w 100 11) (w 100 12) cell (dg m k))) := if_pos hcg
          dsimp only at hwx hgv
          dsimp only [Option.toList, List.cons_append, List.nil_append, List.append_nil]
          refine wp_istore (pc' := 82) rfl rfl (Nat.le_of_ble_eq_true rfl) rfl ?_
          dsimp only [lset, lset2, List.set, List.getElem?_cons_zero, List.getElem?_cons_succ]
          refine wp_iload (pc' := 84) rfl rfl rfl ?_
          refine wp_if_eq (pc' := 87) (pt := 103) rfl rfl rfl (fun q_3 => absurd q_3 (by decide)) (fun q_3 => ?_)
          refine wp_aload_n (pc' := 88) rfl rfl rfl (by decide) ?_
          refine wp_iload (pc' := 90) rfl rfl rfl ?_
          refine wp_aload_n (pc' := 91) rfl rfl rfl (by decide) ?_
          refine wp_getR (r' := 120) (ci := 10) (k0 := 30) (pc' := 94) rfl rfl (by decide) (by first | assumption | rfl) (hT.get 118 rfl) ?_
          refine wp_iload (pc' := 96) rfl rfl rfl ?_
          refine wp_iaload (pc' := 97) rfl rfl (by first | assumption | rfl) (by omega) ?_
          rw [hwy]
          refine wp_call (pc' := 100) rfl rfl rfl rfl rfl ⟨Nat.le_of_ble_eq_true rfl, Nat.le_of_ble_eq_true rfl, Nat.le_of_ble_eq_true rfl, Nat.le_of_ble_eq_true rfl, Nat.le_of_ble_eq_true rfl⟩ rfl (c_Mod_beside hl.1 hdi hx) ?_
          intro v1 w9 hq1
          rw [hq1.1, hq1.2]
          clear hq1 v1 w9
          dsimp only [Option.toList, List.cons_append, List.nil_append, List.append_nil]
          refine wp_goto (pc' := 105) rfl rfl ?_
          refine wp_istore (pc' := 107) rfl rfl (Nat.le_of_ble_eq_true rfl) rfl ?_
          dsimp only [lset, lset2, List.set, List.getElem?_cons_zero, List.getElem?_cons_succ]
          refine wp_aload_n (pc' := 108) rfl rfl rfl (by decide) ?_
          refine wp_getR (r' := 120) (ci := 10) (k0 := 30) (pc' := 111) rfl rfl (by decide) (by first | assumption | rfl) (hT.get 118 rfl) ?_
          refine wp_iload (pc' := 113) rfl rfl rfl ?_
          refine wp_iaload (pc' := 114) rfl rfl (by first | assumption | rfl) (by omega) ?_
          rw [hwy]
          refine wp_call (pc' := 117) rfl rfl rfl rfl rfl ⟨Nat.le_of_ble_eq_true rfl, Nat.le_of_ble_eq_true rfl, Nat.le_of_ble_eq_true rfl, Nat.le_of_ble_eq_true rfl, Nat.le_of_ble_eq_true rfl⟩ rfl (c_Mod_against hdi) ?_
          intro v1 w9 hq1
          rw [hq1.1, hq1.2]
          clear hq1 v1 w9
          dsimp only [Option.toList, List.cons_append, List.nil_append, List.append_nil]
          refine wp_istore (pc' := 119) rfl rfl (Nat.le_of_ble_eq_true rfl) rfl ?_
          dsimp only [lset, lset2, List.set, List.getElem?_cons_zero, List.getElem?_cons_succ]
          refine wp_iload (pc' := 121) rfl rfl rfl ?_
          refine wp_if_eq (pc' := 124) (pt := 136) rfl rfl rfl (fun q_4 => absurd q_4 (by decide)) (fun q_4 => ?_)
          refine wp_iload (pc' := 126) rfl rfl rfl ?_
          refine wp_aload_n (pc' := 127) rfl rfl rfl (by decide) ?_
          refine wp_iload (pc' := 129) rfl rfl rfl ?_
          refine wp_call (pc' := 132) rfl rfl rfl rfl rfl ⟨Nat.le_of_ble_eq_true rfl, Nat.le_of_ble_eq_true rfl, Nat.le_of_ble_eq_true rfl, Nat.le_of_ble_eq_true rfl, Nat.le_of_ble_eq_true rfl⟩ rfl (c_Mod_all hl hT hx2) ?_
          intro v1 w9 hq1
          rw [hq1.1, hq1.2]
          clear hq1 v1 w9
          dsimp only [Option.toList, List.cons_append, List.nil_append, List.append_nil]
          refine wp_iadd (pc' := 133) rfl rfl (by first | exact w32_id (by omega) (by omega) | rfl) ?_
          refine wp_goto (pc' := 137) rfl rfl ?_
          refine wp_istore (pc' := 139) rfl rfl (Nat.le_of_ble_eq_true rfl) rfl ?_
          dsimp only [lset, lset2, List.set, List.getElem?_cons_zero, List.getElem?_cons_succ]
          refine wp_iinc (pc' := 142) rfl rfl rfl (inc_id (by omega) (by omega)) rfl ?_
          dsimp only [lset, lset2, List.set, List.getElem?_cons_zero, List.getElem?_cons_succ]
          refine wp_goto (pc' := 54) rfl rfl ?_
          refine ih (y + 1) _ _ _ R _ (by omega) (by omega) hx2 (Or.inl ⟨by omega, by omega, ?_⟩)
          rw [← hgv]
          omega
        · skip
          rw [hv1, hw9]
          clear hv1 hw9 v1 w9
          have hgv : gv (w 100 11) (w 100 12) (fun x => sumI (fWorth (w 100 11) (w 107) (fun i => w 109 (3 + i)) (w 108) x) (w 100 10)) m (k + 1) cell back s = -1 := if_neg hcg
          dsimp only [Option.toList, List.cons_append, List.nil_append, List.append_nil]
          refine wp_istore (pc' := 82) rfl rfl (Nat.le_of_ble_eq_true rfl) rfl ?_
          dsimp only [lset, lset2, List.set, List.getElem?_cons_zero, List.getElem?_cons_succ]
          refine wp_iload (pc' := 84) rfl rfl rfl ?_
          refine wp_if_eq (pc' := 87) (pt := 103) rfl rfl rfl (fun q_5 => ?_) (fun q_5 => absurd (by decide) q_5)
          refine wp_iload (pc' := 105) rfl rfl rfl ?_
          refine wp_istore (pc' := 107) rfl rfl (Nat.le_of_ble_eq_true rfl) rfl ?_
          dsimp only [lset, lset2, List.set, List.getElem?_cons_zero, List.getElem?_cons_succ]
          refine wp_aload_n (pc' := 108) rfl rfl rfl (by decide) ?_
          refine wp_getR (r' := 120) (ci := 10) (k0 := 30) (pc' := 111) rfl rfl (by decide) (by first | assumption | rfl) (hT.get 118 rfl) ?_
          refine wp_iload (pc' := 113) rfl rfl rfl ?_
          refine wp_iaload (pc' := 114) rfl rfl (by first | assumption | rfl) (by omega) ?_
          rw [hwy]
          refine wp_call (pc' := 117) rfl rfl rfl rfl rfl ⟨Nat.le_of_ble_eq_true rfl, Nat.le_of_ble_eq_true rfl, Nat.le_of_ble_eq_true rfl, Nat.le_of_ble_eq_true rfl, Nat.le_of_ble_eq_true rfl⟩ rfl (c_Mod_against hdi) ?_
          intro v1 w9 hq1
          rw [hq1.1, hq1.2]
          clear hq1 v1 w9
          dsimp only [Option.toList, List.cons_append, List.nil_append, List.append_nil]
          refine wp_istore (pc' := 119) rfl rfl (Nat.le_of_ble_eq_true rfl) rfl ?_
          dsimp only [lset, lset2, List.set, List.getElem?_cons_zero, List.getElem?_cons_succ]
          refine wp_iload (pc' := 121) rfl rfl rfl ?_
          refine wp_if_eq (pc' := 124) (pt := 136) rfl rfl rfl (fun q_6 => ?_) (fun q_6 => absurd (by decide) q_6)
          refine wp_iconst (a := -1) (pc' := 137) rfl rfl rfl ?_
          refine wp_istore (pc' := 139) rfl rfl (Nat.le_of_ble_eq_true rfl) rfl ?_
          dsimp only [lset, lset2, List.set, List.getElem?_cons_zero, List.getElem?_cons_succ]
          refine wp_iinc (pc' := 142) rfl rfl rfl (inc_id (by omega) (by omega)) rfl ?_
          dsimp only [lset, lset2, List.set, List.getElem?_cons_zero, List.getElem?_cons_succ]
          refine wp_goto (pc' := 54) rfl rfl ?_
          exact ih (y + 1) _ _ _ R _ (by omega) (by omega) hx (Or.inr ⟨rfl, by omega⟩)
set_option maxRecDepth 20000 in
set_option maxHeartbeats 4000000 in
theorem c_Mod_gainedBy {w : Hp} {d : Nat} {n code : Int} {m : Nat} (hT0 : Stc w) (hl : MdOK w) (hx : Cel (w 100 11) (w 100 12) (w 109 0)) (hm : m < 3125) (hn : 0 ≤ n ∧ n ≤ 5) (hWb : ∀ x : Int, Cel (w 100 11) (w 100 12) x → 0 ≤ (fun x => sumI (fWorth (w 100 11) (w 107) (fun i => w 109 (3 + i)) (w 108) x) (w 100 10)) x ∧ (fun x => sumI (fWorth (w 100 11) (w 107) (fun i => w 109 (3 + i)) (w 108) x) (w 100 10)) x ≤ 972) (hcode : code = (m : Int)) : WP SH (d + 5) 205 0 [some (vR 100), some (vI code), some (vI n), none, none, none, none, none, none] [] w (fun v w' => v = some (vI (gv (w 100 11) (w 100 12) (fun x => sumI (fWorth (w 100 11) (w 107) (fun i => w 109 (3 + i)) (w 108) x) (w 100 10)) m n.toNat (w 109 0) (w 109 1) 0)) ∧ Same w w' [120] ∧ ∀ q : Int, 0 ≤ q → q < n → w' 120 q = dg m (n - 1 - q).toNat) := by
  subst hcode
  have hT := hT0
  refine wp_iload_n (pc' := 1) rfl rfl rfl ?_
  refine wp_istore_n (pc' := 2) rfl rfl (Nat.le_of_ble_eq_true rfl) rfl ?_
  dsimp only [lset, lset2, List.set, List.getElem?_cons_zero, List.getElem?_cons_succ]
  refine wp_iload_n (pc' := 3) rfl rfl rfl ?_
  refine wp_iconst (a := 1) (pc' := 4) rfl rfl rfl ?_
  refine wp_isub (pc' := 5) rfl rfl (by first | exact w32_id (by omega) (by omega) | rfl) ?_
  refine wp_istore (pc' := 7) rfl rfl (Nat.le_of_ble_eq_true rfl) rfl ?_
  dsimp only [lset, lset2, List.set, List.getElem?_cons_zero, List.getElem?_cons_succ]
  refine l_figs (w := w) (m := m) hT0 hm hn (fun w1 l3 l4 hS1 hz1 => ?_) n.toNat 0 _ _ w (by omega) (by omega) (by rw [Nat.pow_zero, Nat.div_one]) (Same.rf _ _) (fun q a b => absurd b (by omega))
  have hT := hT0.same hS1 (by decide)
  have e1 : w1 100 = w 100 := hS1 100 (by decide)
  have e7 : w1 107 = w 107 := hS1 107 (by decide)
  have e8 : w1 108 = w 108 := hS1 108 (by decide)
  have e9 : w1 109 = w 109 := hS1 109 (by decide)
  have hl1 : MdOK w1 := hl.same hS1 (by decide)
  have hx1 : Cel (w1 100 11) (w1 100 12) (w1 109 0) := by rw [e1, e9]; exact hx
  have hWb1 := hWb
  rw [← e1, ← e7, ← e8, ← e9] at hWb1
  refine wp_aload_n (pc' := 33) rfl rfl rfl (by decide) ?_
  refine wp_getR (r' := 109) (ci := 10) (k0 := 15) (pc' := 36) rfl rfl (by decide) (by first | assumption | rfl) (hT.get 107 rfl) ?_
  refine wp_iconst (a := 0) (pc' := 37) rfl rfl rfl ?_
  refine wp_iaload (pc' := 38) rfl rfl (by first | assumption | rfl) (by omega) ?_
  refine wp_istore (pc' := 40) rfl rfl (Nat.le_of_ble_eq_true rfl) rfl ?_
  dsimp only [lset, lset2, List.set, List.getElem?_cons_zero, List.getElem?_cons_succ]
  refine wp_aload_n (pc' := 41) rfl rfl rfl (by decide) ?_
  refine wp_getR (r' := 109) (ci := 10) (k0 := 15) (pc' := 44) rfl rfl (by decide) (by first | assumption | rfl) (hT.get 107 rfl) ?_
  refine wp_iconst (a := 1) (pc' := 45) rfl rfl rfl ?_
  refine wp_iaload (pc' := 46) rfl rfl (by first | assumption | rfl) (by omega) ?_
  refine wp_istore (pc' := 48) rfl rfl (Nat.le_of_ble_eq_true rfl) rfl ?_
  dsimp only [lset, lset2, List.set, List.getElem?_cons_zero, List.getElem?_cons_succ]
  refine wp_iconst (a := 0) (pc' := 49) rfl rfl rfl ?_
  refine wp_istore (pc' := 51) rfl rfl (Nat.le_of_ble_eq_true rfl) rfl ?_
  dsimp only [lset, lset2, List.set, List.getElem?_cons_zero, List.getElem?_cons_succ]
  refine wp_iconst (a := 0) (pc' := 52) rfl rfl rfl ?_
  refine wp_istore (pc' := 54) rfl rfl (Nat.le_of_ble_eq_true rfl) rfl ?_
  dsimp only [lset, lset2, List.set, List.getElem?_cons_zero, List.getElem?_cons_succ]
  refine (l_gains (w := w1) (m := m) hT hl1 hn hz1 hWb1 n.toNat 0 _ _ 0 _ _ (by decide) (by omega) hx1 (Or.inl ⟨by decide, by decide, rfl⟩)).mono (fun v w' hq => ?_)
  rw [hq.2]
  refine ⟨?_, hS1, hz1⟩
  rw [hq.1, e1, e7, e8, e9]
set_option maxRecDepth 20000 in
set_option maxHeartbeats 4000000 in
theorem l_codes {w : Hp} {d : Nat} {n r : Int} {no : Int} (hn : 0 ≤ n ∧ n ≤ 5) {Q : Option PV → Hp → Prop} (K : WP SH d 206 56 [some (vR 100), some (vI n), some (vI r), some (vI no), some (vI ((5 ^ n.toNat : Nat) : Int)), some (vI n), none, none, none] [] w Q) : ∀ (k i : Nat) (y c : Int), y = (i : Int) → (i : Int) + k = n → c = ((5 ^ i : Nat) : Int) → WP SH d 206 38 [some (vR 100), some (vI n), some (vI r), some (vI no), some (vI c), some (vI y), none, none, none] [] w Q := by
  intro k
  induction k with
  | zero =>
    intro i y c hy hij hc
    refine wp_iload (pc' := 40) rfl rfl rfl ?_
    refine wp_iload_n (pc' := 41) rfl rfl rfl ?_
    refine wp_icmp_ge (pc' := 44) (pt := 56) rfl rfl rfl (fun q_1 => ?_) (fun q_1 => ?_)
    · skip
      obtain rfl : i = n.toNat := by omega
      obtain rfl : y = n := by omega
      subst hc
      exact K
    · skip
      exfalso; omega
  | succ k ih =>
    intro i y c hy hij hc
    have hp : 5 ^ i ≤ 3125 := Nat.pow_le_pow_right (n := 5) (i := i) (j := 5) (by decide) (by omega)
    have hcb : 0 ≤ c ∧ c ≤ 3125 := by rw [hc]; exact ⟨Int.natCast_nonneg _, Int.ofNat_le.mpr hp⟩
    refine wp_iload (pc' := 40) rfl rfl rfl ?_
    refine wp_iload_n (pc' := 41) rfl rfl rfl ?_
    refine wp_icmp_ge (pc' := 44) (pt := 56) rfl rfl rfl (fun q_1 => ?_) (fun q_1 => ?_)
    · skip
      exfalso; omega
    · skip
      refine wp_iload (pc' := 46) rfl rfl rfl ?_
      refine wp_iconst (a := 5) (pc' := 47) rfl rfl rfl ?_
      refine wp_imul (pc' := 48) rfl rfl (by first | exact w32_id (by omega) (by omega) | rfl) ?_
      refine wp_istore (pc' := 50) rfl rfl (Nat.le_of_ble_eq_true rfl) rfl ?_
      dsimp only [lset, lset2, List.set, List.getElem?_cons_zero, List.getElem?_cons_succ]
      refine wp_iinc (pc' := 53) rfl rfl rfl (inc_id (by omega) (by omega)) rfl ?_
      dsimp only [lset, lset2, List.set, List.getElem?_cons_zero, List.getElem?_cons_succ]
      refine wp_goto (pc' := 38) rfl rfl ?_
      exact ih (i + 1) _ _ (by omega) (by omega) (by rw [hc]; exact (Int.natCast_mul (5 ^ i) 5).symm.trans (congrArg Nat.cast (Nat.pow_succ (n := 5) (m := i)).symm))
theorem gv_ge {c l A : Int} {W : Int → Int} (hc : CL c l) (hW : ∀ x : Int, Cel c l x → 0 ≤ W x ∧ W x ≤ A) (code : Nat) : ∀ (k : Nat) (cell back s : Int), Cel c l cell → 0 ≤ s → -1 ≤ gv c l W code k cell back s := by
  intro k
  induction k with
  | zero =>
    intro cell back s _ hs
    show -1 ≤ s
    omega
  | succ k ih =>
    intro cell back s hx hs
    have hgv : gv c l W code (k + 1) cell back s = if cgo c l cell back (dg code k) then gv c l W code k (sBeside c l cell (dg code k)) (sAgainst (dg code k)) (s + W (sBeside c l cell (dg code k))) else -1 := rfl
    rw [hgv]
    by_cases hcg : cgo c l cell back (dg code k)
    · rw [if_pos hcg]
      have hx2 := cgo_cel hc hx hcg
      have := hW _ hx2
      exact ih _ _ _ hx2 (by omega)
    · rw [if_neg hcg]
      exact Int.le_refl _
set_option maxRecDepth 20000 in
set_option maxHeartbeats 4000000 in
theorem l_scan {w : Hp} {d : Nat} {n r : Int} {x3 : Option PV} (hT0 : Stc w) (hl : MdOK w) (hx : Cel (w 100 11) (w 100 12) (w 109 0)) (hn : 0 ≤ n ∧ n ≤ 5) (hWb : ∀ x : Int, Cel (w 100 11) (w 100 12) x → 0 ≤ (fun x => sumI (fWorth (w 100 11) (w 107) (fun i => w 109 (3 + i)) (w 108) x) (w 100 10)) x ∧ (fun x => sumI (fWorth (w 100 11) (w 107) (fun i => w 109 (3 + i)) (w 108) x) (w 100 10)) x ≤ 972) {Q : Option PV → Hp → Prop} (K : ∀ (w1 : Hp) (x7 x8 : Option PV), Same w w1 [120] → WP SH (d + 6) 206 119 [some (vR 100), some (vI n), some (vI r), x3, some (vI ((5 ^ n.toNat : Nat) : Int)), some (vI ((bcd (w 100 11) (w 100 12) (fun x => sumI (fWorth (w 100 11) (w 107) (fun i => w 109 (3 + i)) (w 108) x) (w 100 10)) n.toNat (w 109 0) (w 109 1)) : Int)), some (vI (bst (w 100 11) (w 100 12) (fun x => sumI (fWorth (w 100 11) (w 107) (fun i => w 109 (3 + i)) (w 108) x) (w 100 10)) n.toNat (w 109 0) (w 109 1))), x7, x8] [] w1 Q) : ∀ (k y : Nat) (z best most : Int) (w1 : Hp) (x8 : Option PV), z = (y : Int) → y + k = 5 ^ n.toNat → Same w w1 [120] → (y ≤ (bcd (w 100 11) (w 100 12) (fun x => sumI (fWorth (w 100 11) (w 107) (fun i => w 109 (3 + i)) (w 108) x) (w 100 10)) n.toNat (w 109 0) (w 109 1)) → -1 ≤ most ∧ most < (bst (w 100 11) (w 100 12) (fun x => sumI (fWorth (w 100 11) (w 107) (fun i => w 109 (3 + i)) (w 108) x) (w 100 10)) n.toNat (w 109 0) (w 109 1))) → ((bcd (w 100 11) (w 100 12) (fun x => sumI (fWorth (w 100 11) (w 107) (fun i => w 109 (3 + i)) (w 108) x) (w 100 10)) n.toNat (w 109 0) (w 109 1)) < y → best = ((bcd (w 100 11) (w 100 12) (fun x => sumI (fWorth (w 100 11) (w 107) (fun i => w 109 (3 + i)) (w 108) x) (w 100 10)) n.toNat (w 109 0) (w 109 1)) : Int) ∧ most = (bst (w 100 11) (w 100 12) (fun x => sumI (fWorth (w 100 11) (w 107) (fun i => w 109 (3 + i)) (w 108) x) (w 100 10)) n.toNat (w 109 0) (w 109 1))) → WP SH (d + 6) 206 65 [some (vR 100), some (vI n), some (vI r), x3, some (vI ((5 ^ n.toNat : Nat) : Int)), some (vI best), some (vI most), some (vI z), x8] [] w1 Q := by
  intro k
  induction k with
  | zero =>
    intro y z best most w1 x8 hz hyj hS hmost hbest
    have hT := hT0.same hS (by decide)
    have e1 : w1 100 = w 100 := hS 100 (by decide)
    have e7 : w1 107 = w 107 := hS 107 (by decide)
    have e8 : w1 108 = w 108 := hS 108 (by decide)
    have e9 : w1 109 = w 109 := hS 109 (by decide)
    have hl1 : MdOK w1 := hl.same hS (by decide)
    have hx1 : Cel (w1 100 11) (w1 100 12) (w1 109 0) := by rw [e1, e9]; exact hx
    have hWb1 := hWb
    rw [← e1, ← e7, ← e8, ← e9] at hWb1
    have hpw : 5 ^ n.toNat ≤ 5 ^ 5 := Nat.pow_le_pow_right (by decide) (by omega)
    have hcl := @bcd_lt (w 100 11) (w 100 12) (fun x => sumI (fWorth (w 100 11) (w 107) (fun i => w 109 (3 + i)) (w 108) x) (w 100 10)) n.toNat (w 109 0) (w 109 1)
    refine wp_iload (pc' := 67) rfl rfl rfl ?_
    refine wp_iload (pc' := 69) rfl rfl rfl ?_
    refine wp_icmp_ge (pc' := 72) (pt := 119) rfl rfl rfl (fun q_1 => ?_) (fun q_1 => ?_)
    · skip
      obtain ⟨rfl, rfl⟩ := hbest (by omega)
      exact K w1 _ _ hS
    · skip
      exfalso; omega
  | succ k ih =>
    intro y z best most w1 x8 hz hyj hS hmost hbest
    have hT := hT0.same hS (by decide)
    have e1 : w1 100 = w 100 := hS 100 (by decide)
    have e7 : w1 107 = w 107 := hS 107 (by decide)
    have e8 : w1 108 = w 108 := hS 108 (by decide)
    have e9 : w1 109 = w 109 := hS 109 (by decide)
    have hl1 : MdOK w1 := hl.same hS (by decide)
    have hx1 : Cel (w1 100 11) (w1 100 12) (w1 109 0) := by rw [e1, e9]; exact hx
    have hWb1 := hWb
    rw [← e1, ← e7, ← e8, ← e9] at hWb1
    have hpw : 5 ^ n.toNat ≤ 5 ^ 5 := Nat.pow_le_pow_right (by decide) (by omega)
    have hcl := @bcd_lt (w 100 11) (w 100 12) (fun x => sumI (fWorth (w 100 11) (w 107) (fun i => w 109 (3 + i)) (w 108) x) (w 100 10)) n.toNat (w 109 0) (w 109 1)
    have hgb := gv_best hl.1 hWb y n.toNat (w 109 0) (w 109 1) 0 hx (by decide)
    rw [Nat.mod_eq_of_lt (show y < 5 ^ n.toNat by omega), Int.zero_add] at hgb
    obtain ⟨g1, g2, g3⟩ := hgb
    have hgm : -1 ≤ gv (w 100 11) (w 100 12) (fun x => sumI (fWorth (w 100 11) (w 107) (fun i => w 109 (3 + i)) (w 108) x) (w 100 10)) y n.toNat (w 109 0) (w 109 1) 0 := gv_ge hl.1 hWb y n.toNat (w 109 0) (w 109 1) 0 hx (by decide)
    refine wp_iload (pc' := 67) rfl rfl rfl ?_
    refine wp_iload (pc' := 69) rfl rfl rfl ?_
    refine wp_icmp_ge (pc' := 72) (pt := 119) rfl rfl rfl (fun q_1 => ?_) (fun q_1 => ?_)
    · skip
      exfalso; omega
    · skip
      refine wp_aload_n (pc' := 73) rfl rfl rfl (by decide) ?_
      refine wp_iload (pc' := 75) rfl rfl rfl ?_
      refine wp_iload_n (pc' := 76) rfl rfl rfl ?_
      refine wp_call (pc' := 79) rfl rfl rfl rfl rfl ⟨Nat.le_of_ble_eq_true rfl, Nat.le_of_ble_eq_true rfl, Nat.le_of_ble_eq_true rfl, Nat.le_of_ble_eq_true rfl, Nat.le_of_ble_eq_true rfl⟩ rfl (c_Mod_gainedBy (m := y) hT hl1 hx1 (by omega) hn hWb1 hz) ?_
      rintro v1 w2 ⟨hv1, hS2, hz2⟩
      rw [hv1]
      clear hv1 v1
      rw [e1, e7, e8, e9]
      generalize hGV : (gv (w 100 11) (w 100 12) (fun x => sumI (fWorth (w 100 11) (w 107) (fun i => w 109 (3 + i)) (w 108) x) (w 100 10)) y n.toNat (w 109 0) (w 109 1) 0) = G at *
      have hfact : (y < (bcd (w 100 11) (w 100 12) (fun x => sumI (fWorth (w 100 11) (w 107) (fun i => w 109 (3 + i)) (w 108) x) (w 100 10)) n.toNat (w 109 0) (w 109 1)) → G < (bst (w 100 11) (w 100 12) (fun x => sumI (fWorth (w 100 11) (w 107) (fun i => w 109 (3 + i)) (w 108) x) (w 100 10)) n.toNat (w 109 0) (w 109 1))) ∧ (y = (bcd (w 100 11) (w 100 12) (fun x => sumI (fWorth (w 100 11) (w 107) (fun i => w 109 (3 + i)) (w 108) x) (w 100 10)) n.toNat (w 109 0) (w 109 1)) → G = (bst (w 100 11) (w 100 12) (fun x => sumI (fWorth (w 100 11) (w 107) (fun i => w 109 (3 + i)) (w 108) x) (w 100 10)) n.toNat (w 109 0) (w 109 1))) ∧ (-1 ≤ G ∧ G ≤ (bst (w 100 11) (w 100 12) (fun x => sumI (fWorth (w 100 11) (w 107) (fun i => w 109 (3 + i)) (w 108) x) (w 100 10)) n.toNat (w 109 0) (w 109 1))) := ⟨g3, g2, hgm, g1⟩
      clear g1 g2 g3 hgm
      dsimp only [Option.toList, List.cons_append, List.nil_append, List.append_nil]
      refine wp_istore (pc' := 81) rfl rfl (Nat.le_of_ble_eq_true rfl) rfl ?_
      dsimp only [lset, lset2, List.set, List.getElem?_cons_zero, List.getElem?_cons_succ]
      refine wp_iload (pc' := 83) rfl rfl rfl ?_
      refine wp_iload (pc' := 85) rfl rfl rfl ?_
      refine wp_icmp_le (pc' := 88) (pt := 93) rfl rfl rfl (fun q_2 => ?_) (fun q_2 => ?_)
      · skip
        refine wp_iload (pc' := 95) rfl rfl rfl ?_
        refine wp_istore (pc' := 97) rfl rfl (Nat.le_of_ble_eq_true rfl) rfl ?_
        dsimp only [lset, lset2, List.set, List.getElem?_cons_zero, List.getElem?_cons_succ]
        refine wp_iload (pc' := 99) rfl rfl rfl ?_
        refine wp_iload (pc' := 101) rfl rfl rfl ?_
        refine wp_icmp_le (pc' := 104) (pt := 109) rfl rfl rfl (fun q_3 => ?_) (fun q_3 => ?_)
        · skip
          refine wp_iload (pc' := 111) rfl rfl rfl ?_
          refine wp_istore (pc' := 113) rfl rfl (Nat.le_of_ble_eq_true rfl) rfl ?_
          dsimp only [lset, lset2, List.set, List.getElem?_cons_zero, List.getElem?_cons_succ]
          refine wp_iinc (pc' := 116) rfl rfl rfl (inc_id (by omega) (by omega)) rfl ?_
          dsimp only [lset, lset2, List.set, List.getElem?_cons_zero, List.getElem?_cons_succ]
          refine wp_goto (pc' := 65) rfl rfl ?_
          first
          | (exfalso; omega)
          | exact ih (y + 1) _ _ _ w2 _ (by omega) (by omega) (hS.tr hS2) (fun h => by have hA := hfact.1 (by omega); have hD := hmost (by omega); omega) (fun h => by
              by_cases h5 : y = (bcd (w 100 11) (w 100 12) (fun x => sumI (fWorth (w 100 11) (w 107) (fun i => w 109 (3 + i)) (w 108) x) (w 100 10)) n.toNat (w 109 0) (w 109 1))
              · have hA := hfact.2.1 h5
                have hD := hmost (by omega)
                omega
              · have hA := hbest (by omega)
                omega)
        · skip
          refine wp_iload (pc' := 106) rfl rfl rfl ?_
          refine wp_goto (pc' := 111) rfl rfl ?_
          refine wp_istore (pc' := 113) rfl rfl (Nat.le_of_ble_eq_true rfl) rfl ?_
          dsimp only [lset, lset2, List.set, List.getElem?_cons_zero, List.getElem?_cons_succ]
          refine wp_iinc (pc' := 116) rfl rfl rfl (inc_id (by omega) (by omega)) rfl ?_
          dsimp only [lset, lset2, List.set, List.getElem?_cons_zero, List.getElem?_cons_succ]
          refine wp_goto (pc' := 65) rfl rfl ?_
          first
          | (exfalso; omega)
          | exact ih (y + 1) _ _ _ w2 _ (by omega) (by omega) (hS.tr hS2) (fun h => by have hA := hfact.1 (by omega); have hD := hmost (by omega); omega) (fun h => by
              by_cases h5 : y = (bcd (w 100 11) (w 100 12) (fun x => sumI (fWorth (w 100 11) (w 107) (fun i => w 109 (3 + i)) (w 108) x) (w 100 10)) n.toNat (w 109 0) (w 109 1))
              · have hA := hfact.2.1 h5
                have hD := hmost (by omega)
                omega
              · have hA := hbest (by omega)
                omega)
      · skip
        refine wp_iload (pc' := 90) rfl rfl rfl ?_
        refine wp_goto (pc' := 95) rfl rfl ?_
        refine wp_istore (pc' := 97) rfl rfl (Nat.le_of_ble_eq_true rfl) rfl ?_
        dsimp only [lset, lset2, List.set, List.getElem?_cons_zero, List.getElem?_cons_succ]
        refine wp_iload (pc' := 99) rfl rfl rfl ?_
        refine wp_iload (pc' := 101) rfl rfl rfl ?_
        refine wp_icmp_le (pc' := 104) (pt := 109) rfl rfl rfl (fun q_4 => ?_) (fun q_4 => ?_)
        · skip
          refine wp_iload (pc' := 111) rfl rfl rfl ?_
          refine wp_istore (pc' := 113) rfl rfl (Nat.le_of_ble_eq_true rfl) rfl ?_
          dsimp only [lset, lset2, List.set, List.getElem?_cons_zero, List.getElem?_cons_succ]
          refine wp_iinc (pc' := 116) rfl rfl rfl (inc_id (by omega) (by omega)) rfl ?_
          dsimp only [lset, lset2, List.set, List.getElem?_cons_zero, List.getElem?_cons_succ]
          refine wp_goto (pc' := 65) rfl rfl ?_
          first
          | (exfalso; omega)
          | exact ih (y + 1) _ _ _ w2 _ (by omega) (by omega) (hS.tr hS2) (fun h => by have hA := hfact.1 (by omega); have hD := hmost (by omega); omega) (fun h => by
              by_cases h5 : y = (bcd (w 100 11) (w 100 12) (fun x => sumI (fWorth (w 100 11) (w 107) (fun i => w 109 (3 + i)) (w 108) x) (w 100 10)) n.toNat (w 109 0) (w 109 1))
              · have hA := hfact.2.1 h5
                have hD := hmost (by omega)
                omega
              · have hA := hbest (by omega)
                omega)
        · skip
          refine wp_iload (pc' := 106) rfl rfl rfl ?_
          refine wp_goto (pc' := 111) rfl rfl ?_
          refine wp_istore (pc' := 113) rfl rfl (Nat.le_of_ble_eq_true rfl) rfl ?_
          dsimp only [lset, lset2, List.set, List.getElem?_cons_zero, List.getElem?_cons_succ]
          refine wp_iinc (pc' := 116) rfl rfl rfl (inc_id (by omega) (by omega)) rfl ?_
          dsimp only [lset, lset2, List.set, List.getElem?_cons_zero, List.getElem?_cons_succ]
          refine wp_goto (pc' := 65) rfl rfl ?_
          first
          | (exfalso; omega)
          | exact ih (y + 1) _ _ _ w2 _ (by omega) (by omega) (hS.tr hS2) (fun h => by have hA := hfact.1 (by omega); have hD := hmost (by omega); omega) (fun h => by
              by_cases h5 : y = (bcd (w 100 11) (w 100 12) (fun x => sumI (fWorth (w 100 11) (w 107) (fun i => w 109 (3 + i)) (w 108) x) (w 100 10)) n.toNat (w 109 0) (w 109 1))
              · have hA := hfact.2.1 h5
                have hD := hmost (by omega)
                omega
              · have hA := hbest (by omega)
                omega)
set_option maxRecDepth 20000 in
set_option maxHeartbeats 4000000 in
theorem l_Mcrow {w : Hp} {d : Nat} {n r most : Int} {x3 x4 x5 x8 : Option PV} (hT0 : Stc w) (hn : 0 ≤ n ∧ n ≤ 5) (hr : 0 ≤ r ∧ r < 6) : ∀ (k : Nat) (y : Int) (w1 : Hp), 0 ≤ y → y + k = n → Same w w1 [103] → (∀ i : Int, 0 ≤ i → i < y → w1 103 (40 * r + i) = w 120 i) → (∀ z : Int, z < 40 * r ∨ 40 * r + 40 ≤ z → w1 103 z = w 103 z) → WP SH d 206 137 [some (vR 100), some (vI n), some (vI r), x3, x4, x5, some (vI most), some (vI y), x8] [] w1 (fun v w' => v = some (vI most) ∧ Same w w' [103] ∧ (∀ i : Int, 0 ≤ i → i < n → w' 103 (40 * r + i) = w 120 i) ∧ ∀ z : Int, z < 40 * r ∨ 40 * r + 40 ≤ z → w' 103 z = w 103 z) := by
  intro k
  induction k with
  | zero =>
    intro y w1 h0 hyj hS hz ho
    have hT := hT0.same hS (by decide)
    refine wp_iload (pc' := 139) rfl rfl rfl ?_
    refine wp_iload_n (pc' := 140) rfl rfl rfl ?_
    refine wp_icmp_ge (pc' := 143) (pt := 168) rfl rfl rfl (fun q_1 => ?_) (fun q_1 => ?_)
    · skip
      refine wp_iload (pc' := 170) rfl rfl rfl ?_
      refine wp_ret rfl rfl rfl ?_
      exact ⟨rfl, hS, fun i a b => hz i a (by omega), ho⟩
    · skip
      exfalso; omega
  | succ k ih =>
    intro y w1 h0 hyj hS hz ho
    have hT := hT0.same hS (by decide)
    refine wp_iload (pc' := 139) rfl rfl rfl ?_
    refine wp_iload_n (pc' := 140) rfl rfl rfl ?_
    refine wp_icmp_ge (pc' := 143) (pt := 168) rfl rfl rfl (fun q_1 => ?_) (fun q_1 => ?_)
    · skip
      exfalso; omega
    · skip
      refine wp_aload_n (pc' := 144) rfl rfl rfl (by decide) ?_
      refine wp_getR (r' := 103) (ci := 10) (k0 := 6) (pc' := 147) rfl rfl (by decide) (by first | assumption | rfl) (hT.get 101 rfl) ?_
      refine wp_bipush (a := 40) (pc' := 149) rfl rfl rfl ?_
      refine wp_iload_n (pc' := 150) rfl rfl rfl ?_
      refine wp_imul (pc' := 151) rfl rfl (by first | exact w32_id (by omega) (by omega) | rfl) ?_
      refine wp_iload (pc' := 153) rfl rfl rfl ?_
      refine wp_iadd (pc' := 154) rfl rfl (by first | exact w32_id (by omega) (by omega) | rfl) ?_
      refine wp_aload_n (pc' := 155) rfl rfl rfl (by decide) ?_
      refine wp_getR (r' := 120) (ci := 10) (k0 := 30) (pc' := 158) rfl rfl (by decide) (by first | assumption | rfl) (hT.get 118 rfl) ?_
      refine wp_iload (pc' := 160) rfl rfl rfl ?_
      refine wp_iaload (pc' := 161) rfl rfl (by first | assumption | rfl) (by omega) ?_
      refine wp_iastore (pc' := 162) rfl rfl (by first | assumption | rfl) (by omega) ?_
      refine wp_iinc (pc' := 165) rfl rfl rfl (inc_id (by omega) (by omega)) rfl ?_
      dsimp only [lset, lset2, List.set, List.getElem?_cons_zero, List.getElem?_cons_succ]
      refine wp_goto (pc' := 137) rfl rfl ?_
      refine ih (y + 1) _ (by omega) (by omega) (hS.put (by decide)) (fun i i0 i1 => ?_) (fun z hzz => ?_)
      · by_cases hi : i = y
        · rw [hi, up_eq, hS 120 (by decide)]
        · rw [up_at (by omega)]
          exact hz i i0 (by omega)
      · rw [up_at (by omega)]
        exact ho z hzz
