/-! hearths heaped up for each way -/
/-- nothing but the cells of L has changed -/
def Same (w w' : Hp) (L : List Int) : Prop := ∀ r : Int, r ∉ L → w' r = w r
theorem Same.rf (w : Hp) (L : List Int) : Same w w L := fun _ _ => rfl
theorem Same.tr {a b c : Hp} {L : List Int} (h1 : Same a b L) (h2 : Same b c L) : Same a c L := fun r hr => (h2 r hr).trans (h1 r hr)
theorem Same.mono {a b : Hp} {L M : List Int} (h : Same a b L) (hL : ∀ r ∈ L, r ∈ M) : Same a b M := fun r hr => h r (fun z => hr (hL r z))
theorem Same.put {w w1 : Hp} {L : List Int} (h : Same w w1 L) {r i x : Int} (hr : r ∈ L) : Same w (up w1 r i x) L := fun q hq => by
  rw [up_ne (fun z => hq (by rw [z]; exact hr))]
  exact h q hq
theorem up_eq (w : Hp) (r i x : Int) : up w r i x r i = x := by unfold up; rw [if_pos ⟨rfl, rfl⟩]
theorem up_at {w : Hp} {r i x j : Int} (h : j ≠ i) : up w r i x r j = w r j := by unfold up; rw [if_neg (fun z => h z.2)]
theorem Stc.same {w w' : Hp} {L : List Int} (h : Stc w) (hs : Same w w' L) (hL : refTab.all (fun q => decide (q.1 ∉ L)) = true) : Stc w' := fun q hq => by
  rw [hs q.1 (of_decide_eq_true (List.all_eq_true.mp hL q hq))]
  exact h q hq
def fHeap (V G : Int → Int) (way : Int) : Int → Int := fun i => if V i = way then G i else 0
theorem heap_bd {V G : Int → Int} {way n : Int} (h0 : 0 ≤ n) (hn : n ≤ 6) (h : ∀ j : Int, 0 ≤ j → j < n → 1 ≤ G j ∧ G j ≤ 9) : 0 ≤ sumI (fHeap V G way) n ∧ sumI (fHeap V G way) n ≤ 54 := by
  have h1 := sumI_bd (f := fHeap V G way) (lo := 0) (hi := 9) h0 (fun j a b => by
    have := h j a b
    unfold fHeap
    split <;> omega)
  omega
theorem bit0 {i : Int} (h : 0 ≤ i ∧ i < 6) : bit 0 i = 0 := by
  have : i = 0 ∨ i = 1 ∨ i = 2 ∨ i = 3 ∨ i = 4 ∨ i = 5 := by omega
  rcases this with rfl | rfl | rfl | rfl | rfl | rfl <;> decide
def vOf (set ow : Int) (C : Int → Int) : Int → Int := fun i => if bit set i = 0 then C i else ow

set_option maxRecDepth 20000 in
set_option maxHeartbeats 4000000 in
theorem l_heap1 {w : Hp} {d : Nat} {set ow : Int} {Q : Option PV → Hp → Prop} (hT0 : Stc w) (hn : 1 ≤ w 3 2 ∧ w 3 2 ≤ 6) (hg : ∀ j : Int, 0 ≤ j → j < w 3 2 → 1 ≤ w 6 j ∧ w 6 j ≤ 9) {x5 : Option PV} (K : ∀ w1 : Hp, Same w w1 [25] → (∀ j : Int, 0 ≤ j → j < 5 → w1 25 j = 0) → WP SH d 4 23 [some (vR 23), some (vR 3), some (vI set), some (vI ow), some (vI 5), x5] [] w1 Q) : ∀ (k : Nat) (i : Int) (w1 : Hp), 0 ≤ i → i + k = 5 → Same w w1 [25] → (∀ j : Int, 0 ≤ j → j < i → w1 25 j = 0) → WP SH d 4 3 [some (vR 23), some (vR 3), some (vI set), some (vI ow), some (vI i), x5] [] w1 Q := by
  intro k
  induction k with
  | zero =>
    intro i w1 hi0 hik hS hz
    have hT := hT0.same hS (by decide)
    have e3 : w1 3 = w 3 := hS 3 (by decide)
    have e32 : w1 3 2 = w 3 2 := by rw [e3]
    refine wp_iload (pc' := 5) rfl rfl rfl ?_
    refine wp_iconst (a := 5) (pc' := 6) rfl rfl rfl ?_
    refine wp_icmp_ge (pc' := 9) (pt := 23) rfl rfl rfl (fun q_1 => ?_) (fun q_1 => ?_)
    · skip
      obtain rfl : i = 5 := by omega
      exact K w1 hS hz
    · skip
      exfalso; omega
  | succ k ih =>
    intro i w1 hi0 hik hS hz
    have hT := hT0.same hS (by decide)
    have e3 : w1 3 = w 3 := hS 3 (by decide)
    have e32 : w1 3 2 = w 3 2 := by rw [e3]
    refine wp_iload (pc' := 5) rfl rfl rfl ?_
    refine wp_iconst (a := 5) (pc' := 6) rfl rfl rfl ?_
    refine wp_icmp_ge (pc' := 9) (pt := 23) rfl rfl rfl (fun q_1 => ?_) (fun q_1 => ?_)
    · skip
      exfalso; omega
    · skip
      refine wp_aload_n (pc' := 10) rfl rfl rfl (by decide) ?_
      refine wp_getR (r' := 25) (ci := 0) (k0 := 1) (pc' := 13) rfl rfl (by decide) (by first | assumption | rfl) (hT.get 43 rfl) ?_
      refine wp_iload (pc' := 15) rfl rfl rfl ?_
      refine wp_iconst (a := 0) (pc' := 16) rfl rfl rfl ?_
      refine wp_iastore (pc' := 17) rfl rfl (by first | assumption | rfl) (by omega) ?_
      refine wp_iinc (pc' := 20) rfl rfl rfl (inc_id (by omega) (by omega)) rfl ?_
      dsimp only [lset, lset2, List.set, List.getElem?_cons_zero, List.getElem?_cons_succ]
      refine wp_goto (pc' := 3) rfl rfl ?_
      exact ih _ _ (by omega) (by omega) (hS.put (by decide)) (fun j a b => by
        by_cases hj : j = i
        · rw [hj, up_eq]
        · rw [up_at hj]; exact hz j a (by omega))
set_option maxRecDepth 20000 in
set_option maxHeartbeats 4000000 in
theorem l_heap2 {w : Hp} {d : Nat} {set ow : Int} (hT0 : Stc w) (hn : 1 ≤ w 3 2 ∧ w 3 2 ≤ 6) (hg : ∀ j : Int, 0 ≤ j → j < w 3 2 → 1 ≤ w 6 j ∧ w 6 j ≤ 9) : ∀ (k : Nat) (i : Int) (w1 : Hp) (x5 : Option PV), 0 ≤ i → i + k = w 3 2 → Same w w1 [25] → (∀ j : Int, 0 ≤ j → j < 5 → w1 25 j = sumI (fHeap (vOf set ow (w 24)) (w 6) j) i) → WP SH d 4 26 [some (vR 23), some (vR 3), some (vI set), some (vI ow), some (vI i), x5] [] w1 (fun v w' => v = none ∧ Same w w' [25] ∧ ∀ j : Int, 0 ≤ j → j < 5 → w' 25 j = sumI (fHeap (vOf set ow (w 24)) (w 6) j) (w 3 2)) := by
  intro k
  induction k with
  | zero =>
    intro i w1 x5 hi0 hik hS hz
    have hT := hT0.same hS (by decide)
    have e3 : w1 3 = w 3 := hS 3 (by decide)
    have e32 : w1 3 2 = w 3 2 := by rw [e3]
    have e24 : w1 24 i = w 24 i := by rw [hS 24 (by decide)]
    have e6 : w1 6 i = w 6 i := by rw [hS 6 (by decide)]
    have hbit : bit set i = iAnd (iShr set i) 1 := rfl
    have hvo : vOf set ow (w 24) i = if bit set i = 0 then w 24 i else ow := rfl
    refine wp_iload (pc' := 28) rfl rfl rfl ?_
    refine wp_aload_n (pc' := 29) rfl rfl rfl (by decide) ?_
    refine wp_getI (ci := 3) (k0 := 2) (pc' := 32) rfl rfl (by decide) (by first | assumption | rfl) ?_
    refine wp_icmp_ge (pc' := 35) (pt := 91) rfl rfl rfl (fun q_1 => ?_) (fun q_1 => ?_)
    · skip
      refine wp_ret rfl rfl rfl ?_
      exact ⟨rfl, hS, fun j a b => by rw [hz j a b, show i = w 3 2 by omega]⟩
    · skip
      exfalso; omega
  | succ k ih =>
    intro i w1 x5 hi0 hik hS hz
    have hT := hT0.same hS (by decide)
    have e3 : w1 3 = w 3 := hS 3 (by decide)
    have e32 : w1 3 2 = w 3 2 := by rw [e3]
    have e24 : w1 24 i = w 24 i := by rw [hS 24 (by decide)]
    have e6 : w1 6 i = w 6 i := by rw [hS 6 (by decide)]
    have hbit : bit set i = iAnd (iShr set i) 1 := rfl
    have hvo : vOf set ow (w 24) i = if bit set i = 0 then w 24 i else ow := rfl
    refine wp_iload (pc' := 28) rfl rfl rfl ?_
    refine wp_aload_n (pc' := 29) rfl rfl rfl (by decide) ?_
    refine wp_getI (ci := 3) (k0 := 2) (pc' := 32) rfl rfl (by decide) (by first | assumption | rfl) ?_
    refine wp_icmp_ge (pc' := 35) (pt := 91) rfl rfl rfl (fun q_1 => ?_) (fun q_1 => ?_)
    · skip
      exfalso; omega
    · skip
      have hgi := hg i hi0 (by omega)
      have hbb : ∀ j : Int, 0 ≤ j → j < 5 → 0 ≤ w1 25 j ∧ w1 25 j ≤ 54 := fun j a b => by
        rw [hz j a b]
        exact heap_bd hi0 (by omega) (fun j a b => hg j a (by omega))
      refine wp_iload_n (pc' := 36) rfl rfl rfl ?_
      refine wp_iload (pc' := 38) rfl rfl rfl ?_
      refine wp_ishr (pc' := 39) rfl rfl rfl ?_
      refine wp_iconst (a := 1) (pc' := 40) rfl rfl rfl ?_
      refine wp_iand (pc' := 41) rfl rfl rfl ?_
      refine wp_if_eq (pc' := 44) (pt := 48) rfl rfl rfl (fun q_2 => ?_) (fun q_2 => ?_)
      · skip
        refine wp_aload_n (pc' := 49) rfl rfl rfl (by decide) ?_
        refine wp_getR (r' := 24) (ci := 0) (k0 := 0) (pc' := 52) rfl rfl (by decide) (by first | assumption | rfl) (hT.get 42 rfl) ?_
        refine wp_iload (pc' := 54) rfl rfl rfl ?_
        refine wp_iaload (pc' := 55) rfl rfl (by first | assumption | rfl) (by omega) ?_
        refine wp_istore (pc' := 57) rfl rfl (Nat.le_of_ble_eq_true rfl) rfl ?_
        dsimp only [lset, lset2, List.set, List.getElem?_cons_zero, List.getElem?_cons_succ]
        refine wp_iload (pc' := 59) rfl rfl rfl ?_
        refine wp_if_lt (pc' := 62) (pt := 85) rfl rfl rfl (fun q_3 => ?_) (fun q_3 => ?_)
        · skip
          refine wp_iinc (pc' := 88) rfl rfl rfl (inc_id (by omega) (by omega)) rfl ?_
          dsimp only [lset, lset2, List.set, List.getElem?_cons_zero, List.getElem?_cons_succ]
          refine wp_goto (pc' := 26) rfl rfl ?_
          have hv : vOf set ow (w 24) i = w 24 i := by
            unfold vOf
            first | rw [if_pos (by omega)] | rw [if_neg (by omega)]
          refine ih _ _ _ (by omega) (by omega) hS (fun j a b => ?_)
          rw [sumI_s _ hi0, hz j a b]
          unfold fHeap
          rw [hv]
          split <;> omega
        · skip
          refine wp_iload (pc' := 64) rfl rfl rfl ?_
          refine wp_iconst (a := 5) (pc' := 65) rfl rfl rfl ?_
          refine wp_icmp_ge (pc' := 68) (pt := 85) rfl rfl rfl (fun q_4 => ?_) (fun q_4 => ?_)
          · skip
            refine wp_iinc (pc' := 88) rfl rfl rfl (inc_id (by omega) (by omega)) rfl ?_
            dsimp only [lset, lset2, List.set, List.getElem?_cons_zero, List.getElem?_cons_succ]
            refine wp_goto (pc' := 26) rfl rfl ?_
            have hv : vOf set ow (w 24) i = w 24 i := by
              unfold vOf
              first | rw [if_pos (by omega)] | rw [if_neg (by omega)]
            refine ih _ _ _ (by omega) (by omega) hS (fun j a b => ?_)
            rw [sumI_s _ hi0, hz j a b]
            unfold fHeap
            rw [hv]
            split <;> omega
          · skip
            refine wp_aload_n (pc' := 69) rfl rfl rfl (by decide) ?_
            refine wp_getR (r' := 25) (ci := 0) (k0 := 1) (pc' := 72) rfl rfl (by decide) (by first | assumption | rfl) (hT.get 43 rfl) ?_
            refine wp_iload (pc' := 74) rfl rfl rfl ?_
            refine wp_dup2 (pc' := 75) rfl rfl ?_
            refine wp_iaload (pc' := 76) rfl rfl (by first | assumption | rfl) (by omega) ?_
            refine wp_aload_n (pc' := 77) rfl rfl rfl (by decide) ?_
            refine wp_getR (r' := 6) (ci := 3) (k0 := 9) (pc' := 80) rfl rfl (by decide) (by first | assumption | rfl) (hT.get 25 rfl) ?_
            refine wp_iload (pc' := 82) rfl rfl rfl ?_
            refine wp_iaload (pc' := 83) rfl rfl (by first | assumption | rfl) (by omega) ?_
            refine wp_iadd (pc' := 84) rfl rfl (by first | exact w32_id (by omega) (by omega) | rfl) ?_
            refine wp_iastore (pc' := 85) rfl rfl (by first | assumption | rfl) (by omega) ?_
            refine wp_iinc (pc' := 88) rfl rfl rfl (inc_id (by omega) (by omega)) rfl ?_
            dsimp only [lset, lset2, List.set, List.getElem?_cons_zero, List.getElem?_cons_succ]
            refine wp_goto (pc' := 26) rfl rfl ?_
            have hv : vOf set ow (w 24) i = w 24 i := by
              unfold vOf
              first | rw [if_pos (by omega)] | rw [if_neg (by omega)]
            refine ih _ _ _ (by omega) (by omega) (hS.put (by decide)) (fun j a b => ?_)
            rw [sumI_s _ hi0]
            have hzj := hz j a b
            by_cases hj : j = (w1 24 i)
            · have hq := hbb j a b
              rw [hj] at hzj hq
              rw [hj, up_eq, w32_id (by omega) (by omega), hzj]
              unfold fHeap
              rw [hv]
              split <;> omega
            · rw [up_at hj, hzj]
              unfold fHeap
              rw [hv]
              split <;> omega
      · skip
        refine wp_iload_n (pc' := 45) rfl rfl rfl ?_
        refine wp_goto (pc' := 55) rfl rfl ?_
        refine wp_istore (pc' := 57) rfl rfl (Nat.le_of_ble_eq_true rfl) rfl ?_
        dsimp only [lset, lset2, List.set, List.getElem?_cons_zero, List.getElem?_cons_succ]
        refine wp_iload (pc' := 59) rfl rfl rfl ?_
        refine wp_if_lt (pc' := 62) (pt := 85) rfl rfl rfl (fun q_5 => ?_) (fun q_5 => ?_)
        · skip
          refine wp_iinc (pc' := 88) rfl rfl rfl (inc_id (by omega) (by omega)) rfl ?_
          dsimp only [lset, lset2, List.set, List.getElem?_cons_zero, List.getElem?_cons_succ]
          refine wp_goto (pc' := 26) rfl rfl ?_
          have hv : vOf set ow (w 24) i = ow := by
            unfold vOf
            first | rw [if_pos (by omega)] | rw [if_neg (by omega)]
          refine ih _ _ _ (by omega) (by omega) hS (fun j a b => ?_)
          rw [sumI_s _ hi0, hz j a b]
          unfold fHeap
          rw [hv]
          split <;> omega
        · skip
          refine wp_iload (pc' := 64) rfl rfl rfl ?_
          refine wp_iconst (a := 5) (pc' := 65) rfl rfl rfl ?_
          refine wp_icmp_ge (pc' := 68) (pt := 85) rfl rfl rfl (fun q_6 => ?_) (fun q_6 => ?_)
          · skip
            refine wp_iinc (pc' := 88) rfl rfl rfl (inc_id (by omega) (by omega)) rfl ?_
            dsimp only [lset, lset2, List.set, List.getElem?_cons_zero, List.getElem?_cons_succ]
            refine wp_goto (pc' := 26) rfl rfl ?_
            have hv : vOf set ow (w 24) i = ow := by
              unfold vOf
              first | rw [if_pos (by omega)] | rw [if_neg (by omega)]
            refine ih _ _ _ (by omega) (by omega) hS (fun j a b => ?_)
            rw [sumI_s _ hi0, hz j a b]
            unfold fHeap
            rw [hv]
            split <;> omega
          · skip
            refine wp_aload_n (pc' := 69) rfl rfl rfl (by decide) ?_
            refine wp_getR (r' := 25) (ci := 0) (k0 := 1) (pc' := 72) rfl rfl (by decide) (by first | assumption | rfl) (hT.get 43 rfl) ?_
            refine wp_iload (pc' := 74) rfl rfl rfl ?_
            refine wp_dup2 (pc' := 75) rfl rfl ?_
            refine wp_iaload (pc' := 76) rfl rfl (by first | assumption | rfl) (by omega) ?_
            refine wp_aload_n (pc' := 77) rfl rfl rfl (by decide) ?_
            refine wp_getR (r' := 6) (ci := 3) (k0 := 9) (pc' := 80) rfl rfl (by decide) (by first | assumption | rfl) (hT.get 25 rfl) ?_
            refine wp_iload (pc' := 82) rfl rfl rfl ?_
            refine wp_iaload (pc' := 83) rfl rfl (by first | assumption | rfl) (by omega) ?_
            refine wp_iadd (pc' := 84) rfl rfl (by first | exact w32_id (by omega) (by omega) | rfl) ?_
            refine wp_iastore (pc' := 85) rfl rfl (by first | assumption | rfl) (by omega) ?_
            refine wp_iinc (pc' := 88) rfl rfl rfl (inc_id (by omega) (by omega)) rfl ?_
            dsimp only [lset, lset2, List.set, List.getElem?_cons_zero, List.getElem?_cons_succ]
            refine wp_goto (pc' := 26) rfl rfl ?_
            have hv : vOf set ow (w 24) i = ow := by
              unfold vOf
              first | rw [if_pos (by omega)] | rw [if_neg (by omega)]
            refine ih _ _ _ (by omega) (by omega) (hS.put (by decide)) (fun j a b => ?_)
            rw [sumI_s _ hi0]
            have hzj := hz j a b
            by_cases hj : j = ow
            · have hq := hbb j a b
              rw [hj] at hzj hq
              rw [hj, up_eq, w32_id (by omega) (by omega), hzj]
              unfold fHeap
              rw [hv]
              split <;> omega
            · rw [up_at hj, hzj]
              unfold fHeap
              rw [hv]
              split <;> omega
set_option maxRecDepth 20000 in
set_option maxHeartbeats 4000000 in
theorem c_Ballot_heap {w : Hp} {d : Nat} {set ow : Int} (hT0 : Stc w) (hn : 1 ≤ w 3 2 ∧ w 3 2 ≤ 6) (hg : ∀ j : Int, 0 ≤ j → j < w 3 2 → 1 ≤ w 6 j ∧ w 6 j ≤ 9) : WP SH (d + 0) 4 0 [some (vR 23), some (vR 3), some (vI set), some (vI ow), none, none] [] w (fun v w' => v = none ∧ Same w w' [25] ∧ ∀ j : Int, 0 ≤ j → j < 5 → w' 25 j = sumI (fHeap (vOf set ow (w 24)) (w 6) j) (w 3 2)) := by
  refine id ?_
  refine wp_iconst (a := 0) (pc' := 1) rfl rfl rfl ?_
  refine wp_istore (pc' := 3) rfl rfl (Nat.le_of_ble_eq_true rfl) rfl ?_
  dsimp only [lset, lset2, List.set, List.getElem?_cons_zero, List.getElem?_cons_succ]
  refine l_heap1 hT0 hn hg (fun w1 hS hz => ?_) 5 0 w (by omega) (by omega) (Same.rf _ _) (fun j a b => by omega)
  refine wp_iconst (a := 0) (pc' := 24) rfl rfl rfl ?_
  refine wp_istore (pc' := 26) rfl rfl (Nat.le_of_ble_eq_true rfl) rfl ?_
  exact l_heap2 hT0 hn hg (w 3 2).toNat 0 w1 _ (by omega) (by omega) hS (fun j a b => by rw [hz j a b]; rfl)
