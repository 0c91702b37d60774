/-! hearths of a set; buy -/
def fHs (G : Int → Int) (set : Int) : Int → Int := fun i => bit set i * G i
theorem fHs_bd {G : Int → Int} {set n : Int} (h0 : 0 ≤ n) (h6 : n ≤ 6) (h : ∀ j : Int, 0 ≤ j → j < n → 1 ≤ G j ∧ G j ≤ 9) : 0 ≤ sumI (fHs G set) n ∧ sumI (fHs G set) n ≤ 54 := by
  have := @sumI_bd (fHs G set) 0 9 n h0 (fun j a b => by
    have h1 := h j a b
    unfold fHs
    rcases bit01 set j with z | z <;> rw [z] <;> omega)
  omega
theorem bit_neg1 {i : Int} (h : 0 ≤ i ∧ i < 6) : bit (-1) i = 1 := by
  have : i = 0 ∨ i = 1 ∨ i = 2 ∨ i = 3 ∨ i = 4 ∨ i = 5 := by omega
  rcases this with rfl | rfl | rfl | rfl | rfl | rfl <;> decide +kernel
theorem fHs_all {G : Int → Int} {set n : Int} (h6 : n ≤ 6) (h : ∀ j : Int, 0 ≤ j → j < n → 1 ≤ G j ∧ G j ≤ 9) : sumI (fHs G set) n ≤ sumI (fHs G (-1)) n := by
  have hN : ∀ m : Nat, (m : Int) ≤ 6 → (∀ j : Int, 0 ≤ j → j < m → 1 ≤ G j ∧ G j ≤ 9) → sumN (fHs G set) m ≤ sumN (fHs G (-1)) m := by
    intro m
    induction m with
    | zero => intro _ _; exact (by decide : (0 : Int) ≤ 0)
    | succ m ih =>
      intro h1 h2
      have h3 := ih (by omega) (fun j a b => h2 j a (by omega))
      have h4 := h2 m (by omega) (by omega)
      show sumN (fHs G set) m + fHs G set m ≤ sumN (fHs G (-1)) m + fHs G (-1) m
      have h5 : fHs G set m ≤ fHs G (-1) m := by
        unfold fHs
        rw [bit_neg1 (i := m) ⟨by omega, by omega⟩]
        rcases bit01 set m with z | z <;> rw [z] <;> omega
      omega
  by_cases hn : 0 ≤ n
  · exact hN n.toNat (by omega) (fun j a b => h j a (by omega))
  · unfold sumI
    rw [show n.toNat = 0 by omega]
    exact (by decide : (0 : Int) ≤ 0)
theorem fHs_congr {G G' : Int → Int} {set n : Int} (h : ∀ j : Int, 0 ≤ j → j < n → G j = G' j) : sumI (fHs G set) n = sumI (fHs G' set) n := sumI_congr (fun j a b => by unfold fHs; rw [h j a b])
/-- the best set so far, its price: sets below m -/
def bySt (n way : Int) (C G : Int → Int) : Nat → Int × Int
  | 0 => (-9, sumI (fHs G (-1)) n + 1)
  | m + 1 => if sumI (fHs G m) n < (bySt n way C G m).2 ∧ sWin (fun j => sumI (fHeap (vOf m way C) G j) n) = way then ((m : Int), sumI (fHs G m) n) else bySt n way C G m
theorem bySt_ok {n way : Int} {C G : Int → Int} (h0 : 0 ≤ n) (h6 : n ≤ 6) (h : ∀ j : Int, 0 ≤ j → j < n → 1 ≤ G j ∧ G j ≤ 9) : ∀ m : Nat, -9 ≤ (bySt n way C G m).1 ∧ (bySt n way C G m).1 < m ∧ 0 ≤ (bySt n way C G m).2 ∧ (bySt n way C G m).2 ≤ 55 ∧ (((bySt n way C G m).1 = -9 ∧ (bySt n way C G m).2 = sumI (fHs G (-1)) n + 1) ∨ (0 ≤ (bySt n way C G m).1 ∧ (bySt n way C G m).2 = sumI (fHs G (bySt n way C G m).1) n)) := by
  intro m
  induction m with
  | zero =>
    have := fHs_bd (set := -1) h0 h6 h
    refine ⟨Int.le_refl (-9), (by decide : (-9 : Int) < 0), ?_, ?_, Or.inl ⟨rfl, rfl⟩⟩ <;> (show _ ≤ _; unfold bySt; dsimp only; omega)
  | succ m ih =>
    obtain ⟨i1, i2, i3, i4, i5⟩ := ih
    have := fHs_bd (set := m) h0 h6 h
    unfold bySt
    split
    · refine ⟨by dsimp only; omega, by dsimp only; omega, by dsimp only; omega, by dsimp only; omega, Or.inr ⟨by dsimp only; omega, rfl⟩⟩
    · exact ⟨i1, by omega, i3, i4, i5⟩
theorem bySt_congr {n way : Int} {C C' G G' : Int → Int} (h : ∀ j : Int, 0 ≤ j → j < n → C j = C' j ∧ G j = G' j) : ∀ m : Nat, bySt n way C G m = bySt n way C' G' m := by
  intro m
  induction m with
  | zero =>
    unfold bySt
    rw [fHs_congr (fun j a b => (h j a b).2)]
  | succ m ih =>
    unfold bySt
    rw [ih, fHs_congr (fun j a b => (h j a b).2), show (fun j => sumI (fHeap (vOf m way C) G j) n) = fun j => sumI (fHeap (vOf m way C') G' j) n from funext fun j => sumI_congr (fun i a b => by unfold fHeap vOf; rw [(h i a b).1, (h i a b).2])]
theorem vOfM_set {n set way : Int} {C G : Int → Int} (hn : 1 ≤ n ∧ n ≤ 6) (j : Int) : sumI (fHeap (vOfM (iShl 1 n - 1) set way C) G j) n = sumI (fHeap (vOf set way C) G j) n := by
  refine sumI_congr (fun i a b => ?_)
  have hv : vOfM (iShl 1 n - 1) set way C i = vOf set way C i := by
    unfold vOfM vOf
    rw [if_pos (every_bit hn ⟨a, b⟩)]
    rcases bit01 set i with z | z <;> rw [z] <;> simp
  unfold fHeap
  rw [hv]
theorem shl1 {n : Int} (h : 1 ≤ n ∧ n ≤ 6) : 2 ≤ iShl 1 n ∧ iShl 1 n ≤ 64 := by
  have := every_in h
  omega
set_option maxRecDepth 20000 in
set_option maxHeartbeats 4000000 in
theorem l_hearthsOf {w : Hp} {d : Nat} {set : Int} (hT : Stc w) (hn : 0 ≤ w 3 2 ∧ w 3 2 ≤ 6) (hg : ∀ j : Int, 0 ≤ j → j < w 3 2 → 1 ≤ w 6 j ∧ w 6 j ≤ 9) : ∀ (k : Nat) (i s : Int), 0 ≤ i → i + k = w 3 2 → s = sumI (fHs (w 6) set) i → WP SH d 41 4 [some (vR 3), some (vI set), some (vI s), some (vI i)] [] w (fun v w' => v = some (vI (sumI (fHs (w 6) set) (w 3 2))) ∧ w' = w) := by
  intro k
  induction k with
  | zero =>
    intro i s h0 hik hs
    have hbd := @fHs_bd (w 6) set i h0 (by omega) (fun j a b => hg j a (by omega))
    rw [← hs] at hbd
    refine wp_iload_n (pc' := 5) rfl rfl rfl ?_
    refine wp_aload_n (pc' := 6) rfl rfl rfl (by decide) ?_
    refine wp_getI (ci := 3) (k0 := 2) (pc' := 9) rfl rfl (by decide) (by first | assumption | rfl) ?_
    refine wp_icmp_ge (pc' := 12) (pt := 33) rfl rfl rfl (fun q_1 => ?_) (fun q_1 => ?_)
    · skip
      refine wp_iload_n (pc' := 34) rfl rfl rfl ?_
      refine wp_ret rfl rfl rfl ?_
      obtain rfl : i = w 3 2 := by omega
      exact ⟨by rw [hs], rfl⟩
    · skip
      exfalso; omega
  | succ k ih =>
    intro i s h0 hik hs
    have hbd := @fHs_bd (w 6) set i h0 (by omega) (fun j a b => hg j a (by omega))
    rw [← hs] at hbd
    refine wp_iload_n (pc' := 5) rfl rfl rfl ?_
    refine wp_aload_n (pc' := 6) rfl rfl rfl (by decide) ?_
    refine wp_getI (ci := 3) (k0 := 2) (pc' := 9) rfl rfl (by decide) (by first | assumption | rfl) ?_
    refine wp_icmp_ge (pc' := 12) (pt := 33) rfl rfl rfl (fun q_1 => ?_) (fun q_1 => ?_)
    · skip
      exfalso; omega
    · skip
      have hgi := hg i h0 (by omega)
      have hbt : iAnd (iShr set i) 1 = 0 ∨ iAnd (iShr set i) 1 = 1 := bit01 set i
      have hml : 0 ≤ iAnd (iShr set i) 1 * w 6 i ∧ iAnd (iShr set i) 1 * w 6 i ≤ 9 := by rcases hbt with z | z <;> rw [z] <;> omega
      refine wp_iload_n (pc' := 13) rfl rfl rfl ?_
      refine wp_iload_n (pc' := 14) rfl rfl rfl ?_
      refine wp_iload_n (pc' := 15) rfl rfl rfl ?_
      refine wp_ishr (pc' := 16) rfl rfl rfl ?_
      refine wp_iconst (a := 1) (pc' := 17) rfl rfl rfl ?_
      refine wp_iand (pc' := 18) rfl rfl rfl ?_
      refine wp_aload_n (pc' := 19) rfl rfl rfl (by decide) ?_
      refine wp_getR (r' := 6) (ci := 3) (k0 := 9) (pc' := 22) rfl rfl (by decide) (by first | assumption | rfl) (hT.get 25 rfl) ?_
      refine wp_iload_n (pc' := 23) rfl rfl rfl ?_
      refine wp_iaload (pc' := 24) rfl rfl (by first | assumption | rfl) (by omega) ?_
      refine wp_imul (pc' := 25) rfl rfl (by first | exact w32_id (by omega) (by omega) | rfl) ?_
      refine wp_iadd (pc' := 26) rfl rfl (by first | exact w32_id (by omega) (by omega) | rfl) ?_
      refine wp_istore_n (pc' := 27) rfl rfl (Nat.le_of_ble_eq_true rfl) rfl ?_
      dsimp only [lset, lset2, List.set, List.getElem?_cons_zero, List.getElem?_cons_succ]
      refine wp_iinc (pc' := 30) rfl rfl rfl (inc_id (by omega) (by omega)) rfl ?_
      dsimp only [lset, lset2, List.set, List.getElem?_cons_zero, List.getElem?_cons_succ]
      refine wp_goto (pc' := 4) rfl rfl ?_
      exact ih (i + 1) _ (by omega) (by omega) (by rw [sumI_s _ h0, ← hs]; rfl)
set_option maxRecDepth 20000 in
set_option maxHeartbeats 4000000 in
theorem c_Land_hearthsOf {w : Hp} {d : Nat} {set : Int} (hT : Stc w) (hn : 0 ≤ w 3 2 ∧ w 3 2 ≤ 6) (hg : ∀ j : Int, 0 ≤ j → j < w 3 2 → 1 ≤ w 6 j ∧ w 6 j ≤ 9) : WP SH (d + 0) 41 0 [some (vR 3), some (vI set), none, none] [] w (fun v w' => v = some (vI (sumI (fHs (w 6) set) (w 3 2))) ∧ w' = w) := by
  refine wp_iconst (a := 0) (pc' := 1) rfl rfl rfl ?_
  refine wp_istore_n (pc' := 2) rfl rfl (Nat.le_of_ble_eq_true rfl) rfl ?_
  dsimp only [lset, lset2, List.set, List.getElem?_cons_zero, List.getElem?_cons_succ]
  refine wp_iconst (a := 0) (pc' := 3) rfl rfl rfl ?_
  refine wp_istore_n (pc' := 4) rfl rfl (Nat.le_of_ble_eq_true rfl) rfl ?_
  dsimp only [lset, lset2, List.set, List.getElem?_cons_zero, List.getElem?_cons_succ]
  exact l_hearthsOf hT hn hg (w 3 2).toNat 0 0 (by decide) (by omega) rfl
set_option maxRecDepth 20000 in
set_option maxHeartbeats 4000000 in
theorem c_Land_allHearths {w : Hp} {d : Nat} (hT : Stc w) (hn : 0 ≤ w 3 2 ∧ w 3 2 ≤ 6) (hg : ∀ j : Int, 0 ≤ j → j < w 3 2 → 1 ≤ w 6 j ∧ w 6 j ≤ 9) : WP SH (d + 1) 42 0 [some (vR 3)] [] w (fun v w' => v = some (vI (sumI (fHs (w 6) (-1)) (w 3 2))) ∧ w' = w) := by
  refine wp_aload_n (pc' := 1) rfl rfl rfl (by decide) ?_
  refine wp_iconst (a := -1) (pc' := 2) rfl rfl rfl ?_
  refine wp_call (pc' := 5) rfl rfl rfl rfl rfl ⟨Nat.le_of_ble_eq_true rfl, Nat.le_of_ble_eq_true rfl, Nat.le_of_ble_eq_true rfl, Nat.le_of_ble_eq_true rfl, Nat.le_of_ble_eq_true rfl⟩ rfl (c_Land_hearthsOf hT hn hg) ?_
  intro v1 w9 hq1
  rw [hq1.1, hq1.2]
  clear hq1 v1 w9
  dsimp only [Option.toList, List.cons_append, List.nil_append, List.append_nil]
  refine wp_ret rfl rfl rfl ?_
  exact ⟨rfl, rfl⟩
set_option maxRecDepth 20000 in
set_option maxHeartbeats 4000000 in
theorem l_MhearthsOf {w : Hp} {d : Nat} {set : Int} (hT : Stc w) (hn : 1 ≤ w 100 10 ∧ w 100 10 ≤ 6) (hg : ∀ j : Int, 0 ≤ j → j < w 100 10 → 1 ≤ w 108 j ∧ w 108 j ≤ 9) : ∀ (k : Nat) (i s : Int), 0 ≤ i → i + k = w 100 10 → s = sumI (fHs (w 108) set) i → WP SH (d + 1) 200 4 [some (vR 100), some (vI set), some (vI s), some (vI i)] [] w (fun v w' => v = some (vI (sumI (fHs (w 108) set) (w 100 10))) ∧ w' = w) := by
  intro k
  induction k with
  | zero =>
    intro i s h0 hik hs
    have hbd := @fHs_bd (w 108) set i h0 (by omega) (fun j a b => hg j a (by omega))
    rw [← hs] at hbd
    refine wp_iload_n (pc' := 5) rfl rfl rfl ?_
    refine wp_aload_n (pc' := 6) rfl rfl rfl (by decide) ?_
    refine wp_getI (ci := 10) (k0 := 10) (pc' := 9) rfl rfl (by decide) (by first | assumption | rfl) ?_
    refine wp_icmp_ge (pc' := 12) (pt := 39) rfl rfl rfl (fun q_1 => ?_) (fun q_1 => ?_)
    · skip
      refine wp_iload_n (pc' := 40) rfl rfl rfl ?_
      refine wp_ret rfl rfl rfl ?_
      obtain rfl : i = w 100 10 := by omega
      exact ⟨by rw [hs], rfl⟩
    · skip
      exfalso; omega
  | succ k ih =>
    intro i s h0 hik hs
    have hbd := @fHs_bd (w 108) set i h0 (by omega) (fun j a b => hg j a (by omega))
    rw [← hs] at hbd
    refine wp_iload_n (pc' := 5) rfl rfl rfl ?_
    refine wp_aload_n (pc' := 6) rfl rfl rfl (by decide) ?_
    refine wp_getI (ci := 10) (k0 := 10) (pc' := 9) rfl rfl (by decide) (by first | assumption | rfl) ?_
    refine wp_icmp_ge (pc' := 12) (pt := 39) rfl rfl rfl (fun q_1 => ?_) (fun q_1 => ?_)
    · skip
      exfalso; omega
    · skip
      have hgi := hg i h0 (by omega)
      refine wp_iload_n (pc' := 13) rfl rfl rfl ?_
      refine wp_iload_n (pc' := 14) rfl rfl rfl ?_
      refine wp_iload_n (pc' := 15) rfl rfl rfl ?_
      refine wp_call (pc' := 18) rfl rfl rfl rfl rfl ⟨Nat.le_of_ble_eq_true rfl, Nat.le_of_ble_eq_true rfl, Nat.le_of_ble_eq_true rfl, Nat.le_of_ble_eq_true rfl, Nat.le_of_ble_eq_true rfl⟩ rfl (c_Mod_has) ?_
      rintro v1 w9 ⟨hw9, ⟨hv1, hb⟩ | ⟨hv1, hb⟩⟩
      · skip
        rw [hv1, hw9]
        clear hv1 hw9 v1 w9
        dsimp only [Option.toList, List.cons_append, List.nil_append, List.append_nil]
        refine wp_if_eq (pc' := 21) (pt := 30) rfl rfl rfl (fun q_2 => absurd q_2 (by decide)) (fun q_2 => ?_)
        refine wp_aload_n (pc' := 22) rfl rfl rfl (by decide) ?_
        refine wp_getR (r' := 108) (ci := 10) (k0 := 14) (pc' := 25) rfl rfl (by decide) (by first | assumption | rfl) (hT.get 106 rfl) ?_
        refine wp_iload_n (pc' := 26) rfl rfl rfl ?_
        refine wp_iaload (pc' := 27) rfl rfl (by first | assumption | rfl) (by omega) ?_
        refine wp_goto (pc' := 31) rfl rfl ?_
        refine wp_iadd (pc' := 32) rfl rfl (by first | exact w32_id (by omega) (by omega) | rfl) ?_
        refine wp_istore_n (pc' := 33) rfl rfl (Nat.le_of_ble_eq_true rfl) rfl ?_
        dsimp only [lset, lset2, List.set, List.getElem?_cons_zero, List.getElem?_cons_succ]
        refine wp_iinc (pc' := 36) rfl rfl rfl (inc_id (by omega) (by omega)) rfl ?_
        dsimp only [lset, lset2, List.set, List.getElem?_cons_zero, List.getElem?_cons_succ]
        refine wp_goto (pc' := 4) rfl rfl ?_
        exact ih (i + 1) _ (by omega) (by omega) (by rw [sumI_s _ h0, ← hs]; unfold fHs; rcases bit01 set i with z | z <;> first | (exfalso; omega) | (rw [z]; omega))
      · skip
        rw [hv1, hw9]
        clear hv1 hw9 v1 w9
        dsimp only [Option.toList, List.cons_append, List.nil_append, List.append_nil]
        refine wp_if_eq (pc' := 21) (pt := 30) rfl rfl rfl (fun q_3 => ?_) (fun q_3 => absurd (by decide) q_3)
        refine wp_iconst (a := 0) (pc' := 31) rfl rfl rfl ?_
        refine wp_iadd (pc' := 32) rfl rfl (by first | exact w32_id (by omega) (by omega) | rfl) ?_
        refine wp_istore_n (pc' := 33) rfl rfl (Nat.le_of_ble_eq_true rfl) rfl ?_
        dsimp only [lset, lset2, List.set, List.getElem?_cons_zero, List.getElem?_cons_succ]
        refine wp_iinc (pc' := 36) rfl rfl rfl (inc_id (by omega) (by omega)) rfl ?_
        dsimp only [lset, lset2, List.set, List.getElem?_cons_zero, List.getElem?_cons_succ]
        refine wp_goto (pc' := 4) rfl rfl ?_
        exact ih (i + 1) _ (by omega) (by omega) (by rw [sumI_s _ h0, ← hs]; unfold fHs; rcases bit01 set i with z | z <;> first | (exfalso; omega) | (rw [z]; omega))
set_option maxRecDepth 20000 in
set_option maxHeartbeats 4000000 in
theorem c_Mod_hearthsOf {w : Hp} {d : Nat} {set : Int} (hT : Stc w) (hn : 1 ≤ w 100 10 ∧ w 100 10 ≤ 6) (hg : ∀ j : Int, 0 ≤ j → j < w 100 10 → 1 ≤ w 108 j ∧ w 108 j ≤ 9) : WP SH (d + 1) 200 0 [some (vR 100), some (vI set), none, none] [] w (fun v w' => v = some (vI (sumI (fHs (w 108) set) (w 100 10))) ∧ w' = w) := by
  refine wp_iconst (a := 0) (pc' := 1) rfl rfl rfl ?_
  refine wp_istore_n (pc' := 2) rfl rfl (Nat.le_of_ble_eq_true rfl) rfl ?_
  dsimp only [lset, lset2, List.set, List.getElem?_cons_zero, List.getElem?_cons_succ]
  refine wp_iconst (a := 0) (pc' := 3) rfl rfl rfl ?_
  refine wp_istore_n (pc' := 4) rfl rfl (Nat.le_of_ble_eq_true rfl) rfl ?_
  dsimp only [lset, lset2, List.set, List.getElem?_cons_zero, List.getElem?_cons_succ]
  exact l_MhearthsOf hT hn hg (w 100 10).toNat 0 0 (by decide) (by omega) rfl
set_option maxRecDepth 20000 in
set_option maxHeartbeats 4000000 in
theorem l_cheapest {w : Hp} {d : Nat} {way : Int} (hT0 : Stc w) (hn : 1 ≤ w 3 2 ∧ w 3 2 ≤ 6) (hg : ∀ j : Int, 0 ≤ j → j < w 3 2 → 1 ≤ w 6 j ∧ w 6 j ≤ 9) : ∀ (k m : Nat) (b p y : Int) (w1 : Hp) (x6 : Option PV), y = m → m + k = (iShl 1 (w 3 2)).toNat → (b, p) = (bySt (w 3 2) way (w 24) (w 6) m) → Same w w1 [25] → WP SH (d + 2) 8 14 [some (vR 23), some (vR 3), some (vI way), some (vI b), some (vI p), some (vI y), x6] [] w1 (fun v w' => v = some (vI (bySt (w 3 2) way (w 24) (w 6) (iShl 1 (w 3 2)).toNat).1) ∧ Same w w' [25]) := by
  intro k
  induction k with
  | zero =>
    intro m b p y w1 x6 hy hmk hbp hS
    have hT := hT0.same hS (by decide)
    have e3 : w1 3 = w 3 := hS 3 (by decide)
    have e32 : w1 3 2 = w 3 2 := by rw [e3]
    have e6 : w1 6 = w 6 := hS 6 (by decide)
    have e24 : w1 24 = w 24 := hS 24 (by decide)
    have hsh := shl1 hn
    have hok := @bySt_ok (w 3 2) way (w 24) (w 6) (by omega) hn.2 hg m
    rw [← hbp] at hok
    dsimp only at hok
    have hn1 : 1 ≤ w1 3 2 ∧ w1 3 2 ≤ 6 := by rw [e3]; exact hn
    have hg1 : ∀ j : Int, 0 ≤ j → j < w1 3 2 → 1 ≤ w1 6 j ∧ w1 6 j ≤ 9 := by rw [e3, e6]; exact hg
    rw [show iShl 1 (w 3 2) = iShl 1 (w1 3 2) by rw [e3]] at hsh
    refine wp_iload (pc' := 16) rfl rfl rfl ?_
    refine wp_iconst (a := 1) (pc' := 17) rfl rfl rfl ?_
    refine wp_aload_n (pc' := 18) rfl rfl rfl (by decide) ?_
    refine wp_getI (ci := 3) (k0 := 2) (pc' := 21) rfl rfl (by decide) (by first | assumption | rfl) ?_
    refine wp_ishl (pc' := 22) rfl rfl rfl ?_
    refine wp_icmp_ge (pc' := 25) (pt := 72) rfl rfl rfl (fun q_1 => ?_) (fun q_1 => ?_)
    · skip
      refine wp_iload_n (pc' := 73) rfl rfl rfl ?_
      refine wp_ret rfl rfl rfl ?_
      obtain rfl : m = (iShl 1 (w 3 2)).toNat := by rw [e32] at *; omega
      exact ⟨by rw [← hbp], hS⟩
    · skip
      exfalso; rw [e32] at *; omega
  | succ k ih =>
    intro m b p y w1 x6 hy hmk hbp hS
    have hT := hT0.same hS (by decide)
    have e3 : w1 3 = w 3 := hS 3 (by decide)
    have e32 : w1 3 2 = w 3 2 := by rw [e3]
    have e6 : w1 6 = w 6 := hS 6 (by decide)
    have e24 : w1 24 = w 24 := hS 24 (by decide)
    have hsh := shl1 hn
    have hok := @bySt_ok (w 3 2) way (w 24) (w 6) (by omega) hn.2 hg m
    rw [← hbp] at hok
    dsimp only at hok
    have hn1 : 1 ≤ w1 3 2 ∧ w1 3 2 ≤ 6 := by rw [e3]; exact hn
    have hg1 : ∀ j : Int, 0 ≤ j → j < w1 3 2 → 1 ≤ w1 6 j ∧ w1 6 j ≤ 9 := by rw [e3, e6]; exact hg
    rw [show iShl 1 (w 3 2) = iShl 1 (w1 3 2) by rw [e3]] at hsh
    refine wp_iload (pc' := 16) rfl rfl rfl ?_
    refine wp_iconst (a := 1) (pc' := 17) rfl rfl rfl ?_
    refine wp_aload_n (pc' := 18) rfl rfl rfl (by decide) ?_
    refine wp_getI (ci := 3) (k0 := 2) (pc' := 21) rfl rfl (by decide) (by first | assumption | rfl) ?_
    refine wp_ishl (pc' := 22) rfl rfl rfl ?_
    refine wp_icmp_ge (pc' := 25) (pt := 72) rfl rfl rfl (fun q_1 => ?_) (fun q_1 => ?_)
    · skip
      exfalso; rw [e32] at *; omega
    · skip
      refine wp_aload_n (pc' := 26) rfl rfl rfl (by decide) ?_
      refine wp_iload (pc' := 28) rfl rfl rfl ?_
      refine wp_call (pc' := 31) rfl rfl rfl rfl rfl ⟨Nat.le_of_ble_eq_true rfl, Nat.le_of_ble_eq_true rfl, Nat.le_of_ble_eq_true rfl, Nat.le_of_ble_eq_true rfl, Nat.le_of_ble_eq_true rfl⟩ rfl (c_Land_hearthsOf hT (by omega) hg1) ?_
      intro v1 w9 hq1
      rw [hq1.1, hq1.2]
      clear hq1 v1 w9
      rw [e6, e3]
      have hco := @fHs_bd (w 6) y (w 3 2) (by omega) hn.2 hg
      dsimp only [Option.toList, List.cons_append, List.nil_append, List.append_nil]
      refine wp_istore (pc' := 33) rfl rfl (Nat.le_of_ble_eq_true rfl) rfl ?_
      dsimp only [lset, lset2, List.set, List.getElem?_cons_zero, List.getElem?_cons_succ]
      refine wp_iload (pc' := 35) rfl rfl rfl ?_
      refine wp_iload (pc' := 37) rfl rfl rfl ?_
      refine wp_icmp_lt (pc' := 40) (pt := 43) rfl rfl rfl (fun q_2 => ?_) (fun q_2 => ?_)
      · skip
        refine wp_aload_n (pc' := 44) rfl rfl rfl (by decide) ?_
        refine wp_aload_n (pc' := 45) rfl rfl rfl (by decide) ?_
        refine wp_iload (pc' := 47) rfl rfl rfl ?_
        refine wp_iload_n (pc' := 48) rfl rfl rfl ?_
        refine wp_call (pc' := 51) rfl rfl rfl rfl rfl ⟨Nat.le_of_ble_eq_true rfl, Nat.le_of_ble_eq_true rfl, Nat.le_of_ble_eq_true rfl, Nat.le_of_ble_eq_true rfl, Nat.le_of_ble_eq_true rfl⟩ rfl (c_Ballot_heap hT hn1 hg1) ?_
        rintro v1 w2 ⟨hv1, hS2, hz2⟩
        rw [hv1]
        clear hv1 v1
        rw [e6, e3, e24] at hz2
        have hT := hT.same hS2 (by decide)
        have hSw : Same w w2 [25] := hS.tr hS2
        have e32' : w2 3 2 = w 3 2 := by rw [hSw 3 (by decide)]
        dsimp only [Option.toList, List.cons_append, List.nil_append, List.append_nil]
        refine wp_aload_n (pc' := 52) rfl rfl rfl (by decide) ?_
        refine wp_call (pc' := 55) rfl rfl rfl rfl rfl ⟨Nat.le_of_ble_eq_true rfl, Nat.le_of_ble_eq_true rfl, Nat.le_of_ble_eq_true rfl, Nat.le_of_ble_eq_true rfl, Nat.le_of_ble_eq_true rfl⟩ rfl (c_Ballot_winner hT) ?_
        intro v1 w9 hq1
        rw [hq1.1, hq1.2]
        clear hq1 v1 w9
        rw [show sWin (w2 25) = sWin (fun j => sumI (fHeap (vOf y way (w 24)) (w 6) j) (w 3 2)) from sWin_congr (fun j a b => hz2 j a (by omega))]
        dsimp only [Option.toList, List.cons_append, List.nil_append, List.append_nil]
        refine wp_iload_n (pc' := 56) rfl rfl rfl ?_
        refine wp_icmp_ne (pc' := 59) (pt := 66) rfl rfl rfl (fun q_3 => ?_) (fun q_3 => ?_)
        · skip
          refine wp_iinc (pc' := 69) rfl rfl rfl (inc_id (by omega) (by omega)) rfl ?_
          dsimp only [lset, lset2, List.set, List.getElem?_cons_zero, List.getElem?_cons_succ]
          refine wp_goto (pc' := 14) rfl rfl ?_
          subst hy
          refine ih (m + 1) _ _ _ w2 _ (by omega) (by omega) ?_ hSw
          rw [bySt, ← hbp]
          first
          | (rw [if_pos ⟨by omega, by omega⟩])
          | (rw [if_neg (fun z => by have := z.2; omega)])
        · skip
          refine wp_iload (pc' := 61) rfl rfl rfl ?_
          refine wp_istore_n (pc' := 62) rfl rfl (Nat.le_of_ble_eq_true rfl) rfl ?_
          dsimp only [lset, lset2, List.set, List.getElem?_cons_zero, List.getElem?_cons_succ]
          refine wp_iload (pc' := 64) rfl rfl rfl ?_
          refine wp_istore (pc' := 66) rfl rfl (Nat.le_of_ble_eq_true rfl) rfl ?_
          dsimp only [lset, lset2, List.set, List.getElem?_cons_zero, List.getElem?_cons_succ]
          refine wp_iinc (pc' := 69) rfl rfl rfl (inc_id (by omega) (by omega)) rfl ?_
          dsimp only [lset, lset2, List.set, List.getElem?_cons_zero, List.getElem?_cons_succ]
          refine wp_goto (pc' := 14) rfl rfl ?_
          subst hy
          refine ih (m + 1) _ _ _ w2 _ (by omega) (by omega) ?_ hSw
          rw [bySt, ← hbp]
          first
          | (rw [if_pos ⟨by omega, by omega⟩])
          | (rw [if_neg (fun z => by have := z.2; omega)])
      · skip
        refine wp_goto (pc' := 66) rfl rfl ?_
        refine wp_iinc (pc' := 69) rfl rfl rfl (inc_id (by omega) (by omega)) rfl ?_
        dsimp only [lset, lset2, List.set, List.getElem?_cons_zero, List.getElem?_cons_succ]
        refine wp_goto (pc' := 14) rfl rfl ?_
        subst hy
        refine ih (m + 1) _ _ _ w1 _ (by omega) (by omega) ?_ hS
        rw [bySt, ← hbp]
        rw [if_neg (fun z => by have := z.1; omega)]
set_option maxRecDepth 20000 in
set_option maxHeartbeats 4000000 in
theorem c_Ballot_cheapest {w : Hp} {d : Nat} {way : Int} (hT0 : Stc w) (hn : 1 ≤ w 3 2 ∧ w 3 2 ≤ 6) (hg : ∀ j : Int, 0 ≤ j → j < w 3 2 → 1 ≤ w 6 j ∧ w 6 j ≤ 9) : WP SH (d + 2) 8 0 [some (vR 23), some (vR 3), some (vI way), none, none, none, none] [] w (fun v w' => v = some (vI (bySt (w 3 2) way (w 24) (w 6) (iShl 1 (w 3 2)).toNat).1) ∧ Same w w' [25]) := by
  refine wp_bipush (a := -9) (pc' := 2) rfl rfl rfl ?_
  refine wp_istore_n (pc' := 3) rfl rfl (Nat.le_of_ble_eq_true rfl) rfl ?_
  dsimp only [lset, lset2, List.set, List.getElem?_cons_zero, List.getElem?_cons_succ]
  refine wp_aload_n (pc' := 4) rfl rfl rfl (by decide) ?_
  refine wp_call (pc' := 7) rfl rfl rfl rfl rfl ⟨Nat.le_of_ble_eq_true rfl, Nat.le_of_ble_eq_true rfl, Nat.le_of_ble_eq_true rfl, Nat.le_of_ble_eq_true rfl, Nat.le_of_ble_eq_true rfl⟩ rfl (c_Land_allHearths hT0 (by omega) hg) ?_
  intro v1 w9 hq1
  rw [hq1.1, hq1.2]
  clear hq1 v1 w9
  have hco := @fHs_bd (w 6) (-1) (w 3 2) (by omega) hn.2 hg
  dsimp only [Option.toList, List.cons_append, List.nil_append, List.append_nil]
  refine wp_iconst (a := 1) (pc' := 8) rfl rfl rfl ?_
  refine wp_iadd (pc' := 9) rfl rfl (by first | exact w32_id (by omega) (by omega) | rfl) ?_
  refine wp_istore (pc' := 11) rfl rfl (Nat.le_of_ble_eq_true rfl) rfl ?_
  dsimp only [lset, lset2, List.set, List.getElem?_cons_zero, List.getElem?_cons_succ]
  refine wp_iconst (a := 0) (pc' := 12) rfl rfl rfl ?_
  refine wp_istore (pc' := 14) rfl rfl (Nat.le_of_ble_eq_true rfl) rfl ?_
  dsimp only [lset, lset2, List.set, List.getElem?_cons_zero, List.getElem?_cons_succ]
  have hsh := shl1 hn
  exact l_cheapest hT0 hn hg (iShl 1 (w 3 2)).toNat 0 _ _ _ w _ rfl (by omega) rfl (Same.rf _ _)
set_option maxRecDepth 20000 in
set_option maxHeartbeats 4000000 in
theorem l_Mbuy {w : Hp} {d : Nat} {way x2 : Int} {Q : Option PV → Hp → Prop} (hT0 : Stc w) (hp : MdOK w) (hx : Cel (w 100 11) (w 100 12) (w 109 0)) (hway : 0 ≤ way ∧ way ≤ 4) (K : ∀ (w1 : Hp) (y : Int) (x5 : Option PV), Same w w1 [113] → WP SH (d + 6) 201 131 [some (vR 100), some (vI way), some (vI x2), some (vI (bySt (w 100 10) way (fVote (w 100 11) (w 100 12) (w 107) (fun i => w 109 (3 + i)) (w 109 0) (w 109 1)) (w 108) (iShl 1 (w 100 10)).toNat).1), some (vI y), x5] [] w1 Q) : ∀ (k m : Nat) (b y : Int) (w1 : Hp) (x5 : Option PV), y = m → m + k = (iShl 1 (w 100 10)).toNat → b = (bySt (w 100 10) way (fVote (w 100 11) (w 100 12) (w 107) (fun i => w 109 (3 + i)) (w 109 0) (w 109 1)) (w 108) m).1 → Same w w1 [113] → WP SH (d + 6) 201 46 [some (vR 100), some (vI way), some (vI x2), some (vI b), some (vI y), x5] [] w1 Q := by
  intro k
  induction k with
  | zero =>
    intro m b y w1 x5 hy hmk hb hS
    have hT := hT0.same hS (by decide)
    have e1 : w1 100 = w 100 := hS 100 (by decide)
    have e10 : w1 100 10 = w 100 10 := by rw [e1]
    have e7 : w1 107 = w 107 := hS 107 (by decide)
    have e8 : w1 108 = w 108 := hS 108 (by decide)
    have e9 : w1 109 = w 109 := hS 109 (by decide)
    have hn := hp.2.1
    have hgw : ∀ j : Int, 0 ≤ j → j < w 100 10 → 1 ≤ w 108 j ∧ w 108 j ≤ 9 := fun j a b => (hp.2.2 j a b).2.2
    have hp1 : MdOK w1 := hp.same hS (by decide)
    have hx1 : Cel (w1 100 11) (w1 100 12) (w1 109 0) := by rw [e1, e9]; exact hx
    have hsh := shl1 hn
    have hok := @bySt_ok (w 100 10) way (fVote (w 100 11) (w 100 12) (w 107) (fun i => w 109 (3 + i)) (w 109 0) (w 109 1)) (w 108) (by omega) hn.2 hgw m
    rw [← hb] at hok
    have hn1 := hp1.2.1
    have hg1 : ∀ j : Int, 0 ≤ j → j < w1 100 10 → 1 ≤ w1 108 j ∧ w1 108 j ≤ 9 := fun j a b => (hp1.2.2 j a b).2.2
    refine wp_iload (pc' := 48) rfl rfl rfl ?_
    refine wp_aload_n (pc' := 49) rfl rfl rfl (by decide) ?_
    refine wp_call (pc' := 52) rfl rfl rfl rfl rfl ⟨Nat.le_of_ble_eq_true rfl, Nat.le_of_ble_eq_true rfl, Nat.le_of_ble_eq_true rfl, Nat.le_of_ble_eq_true rfl, Nat.le_of_ble_eq_true rfl⟩ rfl (c_Mod_everybody hn1) ?_
    intro v1 w9 hq1
    rw [hq1.1, hq1.2]
    clear hq1 v1 w9
    rw [e10]
    dsimp only [Option.toList, List.cons_append, List.nil_append, List.append_nil]
    refine wp_icmp_gt (pc' := 55) (pt := 131) rfl rfl rfl (fun q_1 => ?_) (fun q_1 => ?_)
    · skip
      obtain rfl : m = (iShl 1 (w 100 10)).toNat := by omega
      rw [hb]
      exact K w1 y x5 hS
    · skip
      exfalso; omega
  | succ k ih =>
    intro m b y w1 x5 hy hmk hb hS
    have hT := hT0.same hS (by decide)
    have e1 : w1 100 = w 100 := hS 100 (by decide)
    have e10 : w1 100 10 = w 100 10 := by rw [e1]
    have e7 : w1 107 = w 107 := hS 107 (by decide)
    have e8 : w1 108 = w 108 := hS 108 (by decide)
    have e9 : w1 109 = w 109 := hS 109 (by decide)
    have hn := hp.2.1
    have hgw : ∀ j : Int, 0 ≤ j → j < w 100 10 → 1 ≤ w 108 j ∧ w 108 j ≤ 9 := fun j a b => (hp.2.2 j a b).2.2
    have hp1 : MdOK w1 := hp.same hS (by decide)
    have hx1 : Cel (w1 100 11) (w1 100 12) (w1 109 0) := by rw [e1, e9]; exact hx
    have hsh := shl1 hn
    have hok := @bySt_ok (w 100 10) way (fVote (w 100 11) (w 100 12) (w 107) (fun i => w 109 (3 + i)) (w 109 0) (w 109 1)) (w 108) (by omega) hn.2 hgw m
    rw [← hb] at hok
    have hn1 := hp1.2.1
    have hg1 : ∀ j : Int, 0 ≤ j → j < w1 100 10 → 1 ≤ w1 108 j ∧ w1 108 j ≤ 9 := fun j a b => (hp1.2.2 j a b).2.2
    refine wp_iload (pc' := 48) rfl rfl rfl ?_
    refine wp_aload_n (pc' := 49) rfl rfl rfl (by decide) ?_
    refine wp_call (pc' := 52) rfl rfl rfl rfl rfl ⟨Nat.le_of_ble_eq_true rfl, Nat.le_of_ble_eq_true rfl, Nat.le_of_ble_eq_true rfl, Nat.le_of_ble_eq_true rfl, Nat.le_of_ble_eq_true rfl⟩ rfl (c_Mod_everybody hn1) ?_
    intro v1 w9 hq1
    rw [hq1.1, hq1.2]
    clear hq1 v1 w9
    rw [e10]
    dsimp only [Option.toList, List.cons_append, List.nil_append, List.append_nil]
    refine wp_icmp_gt (pc' := 55) (pt := 131) rfl rfl rfl (fun q_1 => ?_) (fun q_1 => ?_)
    · skip
      exfalso; omega
    · skip
      refine wp_aload_n (pc' := 56) rfl rfl rfl (by decide) ?_
      refine wp_aload_n (pc' := 57) rfl rfl rfl (by decide) ?_
      refine wp_getR (r' := 109) (ci := 10) (k0 := 15) (pc' := 60) rfl rfl (by decide) (by first | assumption | rfl) (hT.get 107 rfl) ?_
      refine wp_iconst (a := 0) (pc' := 61) rfl rfl rfl ?_
      refine wp_iaload (pc' := 62) rfl rfl (by first | assumption | rfl) (by omega) ?_
      refine wp_aload_n (pc' := 63) rfl rfl rfl (by decide) ?_
      refine wp_getR (r' := 109) (ci := 10) (k0 := 15) (pc' := 66) rfl rfl (by decide) (by first | assumption | rfl) (hT.get 107 rfl) ?_
      refine wp_iconst (a := 1) (pc' := 67) rfl rfl rfl ?_
      refine wp_iaload (pc' := 68) rfl rfl (by first | assumption | rfl) (by omega) ?_
      refine wp_aload_n (pc' := 69) rfl rfl rfl (by decide) ?_
      refine wp_call (pc' := 72) rfl rfl rfl rfl rfl ⟨Nat.le_of_ble_eq_true rfl, Nat.le_of_ble_eq_true rfl, Nat.le_of_ble_eq_true rfl, Nat.le_of_ble_eq_true rfl, Nat.le_of_ble_eq_true rfl⟩ rfl (c_Mod_everybody hn1) ?_
      intro v1 w9 hq1
      rw [hq1.1, hq1.2]
      clear hq1 v1 w9
      rw [e10]
      dsimp only [Option.toList, List.cons_append, List.nil_append, List.append_nil]
      refine wp_iload (pc' := 74) rfl rfl rfl ?_
      refine wp_iload_n (pc' := 75) rfl rfl rfl ?_
      refine wp_call (pc' := 78) rfl rfl rfl rfl rfl ⟨Nat.le_of_ble_eq_true rfl, Nat.le_of_ble_eq_true rfl, Nat.le_of_ble_eq_true rfl, Nat.le_of_ble_eq_true rfl, Nat.le_of_ble_eq_true rfl⟩ rfl (c_Mod_layCounts hT hp1 hx1 hway) ?_
      rintro v1 w2 ⟨hv1, hS2, hz2⟩
      rw [hv1]
      clear hv1 v1
      have hSw : Same w w2 [113] := hS.tr hS2
      have hT := hT.same hS2 (by decide)
      rw [e1, e7, e8, e9] at hz2
      have hz3 : ∀ j : Int, 0 ≤ j → j < 5 → w2 113 j = sumI (fHeap (vOf y way (fVote (w 100 11) (w 100 12) (w 107) (fun i => w 109 (3 + i)) (w 109 0) (w 109 1))) (w 108) j) (w 100 10) := fun j a b => by rw [hz2 j a b, vOfM_set hn]
      have f1 : w2 100 = w 100 := hSw 100 (by decide)
      have f8 : w2 108 = w 108 := hSw 108 (by decide)
      have hn2 : 1 ≤ w2 100 10 ∧ w2 100 10 ≤ 6 := by rw [f1]; exact hn
      have hg2 : ∀ j : Int, 0 ≤ j → j < w2 100 10 → 1 ≤ w2 108 j ∧ w2 108 j ≤ 9 := by rw [f1, f8]; exact hgw
      dsimp only [Option.toList, List.cons_append, List.nil_append, List.append_nil]
      refine wp_iload_n (pc' := 79) rfl rfl rfl ?_
      refine wp_bipush (a := -9) (pc' := 81) rfl rfl rfl ?_
      refine wp_icmp_eq (pc' := 84) (pt := 98) rfl rfl rfl (fun q_2 => ?_) (fun q_2 => ?_)
      · skip
        refine wp_iconst (a := 1) (pc' := 99) rfl rfl rfl ?_
        refine wp_goto (pc' := 103) rfl rfl ?_
        refine wp_istore (pc' := 105) rfl rfl (Nat.le_of_ble_eq_true rfl) rfl ?_
        dsimp only [lset, lset2, List.set, List.getElem?_cons_zero, List.getElem?_cons_succ]
        refine wp_iload (pc' := 107) rfl rfl rfl ?_
        refine wp_if_eq (pc' := 110) (pt := 123) rfl rfl rfl (fun q_3 => absurd q_3 (by decide)) (fun q_3 => ?_)
        refine wp_aload_n (pc' := 111) rfl rfl rfl (by decide) ?_
        refine wp_call (pc' := 114) rfl rfl rfl rfl rfl ⟨Nat.le_of_ble_eq_true rfl, Nat.le_of_ble_eq_true rfl, Nat.le_of_ble_eq_true rfl, Nat.le_of_ble_eq_true rfl, Nat.le_of_ble_eq_true rfl⟩ rfl (c_Mod_carried hT) ?_
        intro v1 w9 hq1
        rw [hq1.1, hq1.2]
        clear hq1 v1 w9
        rw [show sWin (w2 113) = sWin (fun j => sumI (fHeap (vOf y way (fVote (w 100 11) (w 100 12) (w 107) (fun i => w 109 (3 + i)) (w 109 0) (w 109 1))) (w 108) j) (w 100 10)) from sWin_congr (fun j a b => hz3 j a (by omega))]
        dsimp only [Option.toList, List.cons_append, List.nil_append, List.append_nil]
        refine wp_iload_n (pc' := 115) rfl rfl rfl ?_
        refine wp_icmp_ne (pc' := 118) (pt := 123) rfl rfl rfl (fun q_4 => ?_) (fun q_4 => ?_)
        · skip
          refine wp_iload_n (pc' := 124) rfl rfl rfl ?_
          refine wp_istore_n (pc' := 125) rfl rfl (Nat.le_of_ble_eq_true rfl) rfl ?_
          dsimp only [lset, lset2, List.set, List.getElem?_cons_zero, List.getElem?_cons_succ]
          refine wp_iinc (pc' := 128) rfl rfl rfl (inc_id (by omega) (by omega)) rfl ?_
          dsimp only [lset, lset2, List.set, List.getElem?_cons_zero, List.getElem?_cons_succ]
          refine wp_goto (pc' := 46) rfl rfl ?_
          subst hy
          have hcm := @fHs_all (w 108) m (w 100 10) hn.2 hgw
          refine ih (m + 1) _ _ w2 _ (by omega) (by omega) ?_ hSw
          rw [bySt]
          first
          | (rw [if_pos ⟨by omega, by omega⟩])
          | (rw [if_neg (fun z => by have z1 := z.1; have z2 := z.2; omega)]; exact hb)
        · skip
          refine wp_iload (pc' := 120) rfl rfl rfl ?_
          refine wp_goto (pc' := 124) rfl rfl ?_
          refine wp_istore_n (pc' := 125) rfl rfl (Nat.le_of_ble_eq_true rfl) rfl ?_
          dsimp only [lset, lset2, List.set, List.getElem?_cons_zero, List.getElem?_cons_succ]
          refine wp_iinc (pc' := 128) rfl rfl rfl (inc_id (by omega) (by omega)) rfl ?_
          dsimp only [lset, lset2, List.set, List.getElem?_cons_zero, List.getElem?_cons_succ]
          refine wp_goto (pc' := 46) rfl rfl ?_
          subst hy
          have hcm := @fHs_all (w 108) m (w 100 10) hn.2 hgw
          refine ih (m + 1) _ _ w2 _ (by omega) (by omega) ?_ hSw
          rw [bySt]
          first
          | (rw [if_pos ⟨by omega, by omega⟩])
          | (rw [if_neg (fun z => by have z1 := z.1; have z2 := z.2; omega)]; exact hb)
      · skip
        refine wp_aload_n (pc' := 85) rfl rfl rfl (by decide) ?_
        refine wp_iload (pc' := 87) rfl rfl rfl ?_
        refine wp_call (pc' := 90) rfl rfl rfl rfl rfl ⟨Nat.le_of_ble_eq_true rfl, Nat.le_of_ble_eq_true rfl, Nat.le_of_ble_eq_true rfl, Nat.le_of_ble_eq_true rfl, Nat.le_of_ble_eq_true rfl⟩ rfl (c_Mod_hearthsOf hT hn2 hg2) ?_
        intro v1 w9 hq1
        rw [hq1.1, hq1.2]
        clear hq1 v1 w9
        rw [f1, f8]
        dsimp only [Option.toList, List.cons_append, List.nil_append, List.append_nil]
        refine wp_aload_n (pc' := 91) rfl rfl rfl (by decide) ?_
        refine wp_iload_n (pc' := 92) rfl rfl rfl ?_
        refine wp_call (pc' := 95) rfl rfl rfl rfl rfl ⟨Nat.le_of_ble_eq_true rfl, Nat.le_of_ble_eq_true rfl, Nat.le_of_ble_eq_true rfl, Nat.le_of_ble_eq_true rfl, Nat.le_of_ble_eq_true rfl⟩ rfl (c_Mod_hearthsOf hT hn2 hg2) ?_
        intro v1 w9 hq1
        rw [hq1.1, hq1.2]
        clear hq1 v1 w9
        rw [f1, f8]
        dsimp only [Option.toList, List.cons_append, List.nil_append, List.append_nil]
        refine wp_icmp_ge (pc' := 98) (pt := 102) rfl rfl rfl (fun q_5 => ?_) (fun q_5 => ?_)
        · skip
          refine wp_iconst (a := 0) (pc' := 103) rfl rfl rfl ?_
          refine wp_istore (pc' := 105) rfl rfl (Nat.le_of_ble_eq_true rfl) rfl ?_
          dsimp only [lset, lset2, List.set, List.getElem?_cons_zero, List.getElem?_cons_succ]
          refine wp_iload (pc' := 107) rfl rfl rfl ?_
          refine wp_if_eq (pc' := 110) (pt := 123) rfl rfl rfl (fun q_6 => ?_) (fun q_6 => absurd (by decide) q_6)
          refine wp_iload_n (pc' := 124) rfl rfl rfl ?_
          refine wp_istore_n (pc' := 125) rfl rfl (Nat.le_of_ble_eq_true rfl) rfl ?_
          dsimp only [lset, lset2, List.set, List.getElem?_cons_zero, List.getElem?_cons_succ]
          refine wp_iinc (pc' := 128) rfl rfl rfl (inc_id (by omega) (by omega)) rfl ?_
          dsimp only [lset, lset2, List.set, List.getElem?_cons_zero, List.getElem?_cons_succ]
          refine wp_goto (pc' := 46) rfl rfl ?_
          subst hy
          have hcm := @fHs_all (w 108) m (w 100 10) hn.2 hgw
          refine ih (m + 1) _ _ w2 _ (by omega) (by omega) ?_ hSw
          rw [bySt]
          first
          | (rw [if_pos ⟨by omega, by omega⟩])
          | (rw [if_neg (fun z => by have z1 := z.1; have z2 := z.2; omega)]; exact hb)
        · skip
          refine wp_iconst (a := 1) (pc' := 99) rfl rfl rfl ?_
          refine wp_goto (pc' := 103) rfl rfl ?_
          refine wp_istore (pc' := 105) rfl rfl (Nat.le_of_ble_eq_true rfl) rfl ?_
          dsimp only [lset, lset2, List.set, List.getElem?_cons_zero, List.getElem?_cons_succ]
          refine wp_iload (pc' := 107) rfl rfl rfl ?_
          refine wp_if_eq (pc' := 110) (pt := 123) rfl rfl rfl (fun q_7 => absurd q_7 (by decide)) (fun q_7 => ?_)
          refine wp_aload_n (pc' := 111) rfl rfl rfl (by decide) ?_
          refine wp_call (pc' := 114) rfl rfl rfl rfl rfl ⟨Nat.le_of_ble_eq_true rfl, Nat.le_of_ble_eq_true rfl, Nat.le_of_ble_eq_true rfl, Nat.le_of_ble_eq_true rfl, Nat.le_of_ble_eq_true rfl⟩ rfl (c_Mod_carried hT) ?_
          intro v1 w9 hq1
          rw [hq1.1, hq1.2]
          clear hq1 v1 w9
          rw [show sWin (w2 113) = sWin (fun j => sumI (fHeap (vOf y way (fVote (w 100 11) (w 100 12) (w 107) (fun i => w 109 (3 + i)) (w 109 0) (w 109 1))) (w 108) j) (w 100 10)) from sWin_congr (fun j a b => hz3 j a (by omega))]
          dsimp only [Option.toList, List.cons_append, List.nil_append, List.append_nil]
          refine wp_iload_n (pc' := 115) rfl rfl rfl ?_
          refine wp_icmp_ne (pc' := 118) (pt := 123) rfl rfl rfl (fun q_8 => ?_) (fun q_8 => ?_)
          · skip
            refine wp_iload_n (pc' := 124) rfl rfl rfl ?_
            refine wp_istore_n (pc' := 125) rfl rfl (Nat.le_of_ble_eq_true rfl) rfl ?_
            dsimp only [lset, lset2, List.set, List.getElem?_cons_zero, List.getElem?_cons_succ]
            refine wp_iinc (pc' := 128) rfl rfl rfl (inc_id (by omega) (by omega)) rfl ?_
            dsimp only [lset, lset2, List.set, List.getElem?_cons_zero, List.getElem?_cons_succ]
            refine wp_goto (pc' := 46) rfl rfl ?_
            subst hy
            have hcm := @fHs_all (w 108) m (w 100 10) hn.2 hgw
            refine ih (m + 1) _ _ w2 _ (by omega) (by omega) ?_ hSw
            rw [bySt]
            first
            | (rw [if_pos ⟨by omega, by omega⟩])
            | (rw [if_neg (fun z => by have z1 := z.1; have z2 := z.2; omega)]; exact hb)
          · skip
            refine wp_iload (pc' := 120) rfl rfl rfl ?_
            refine wp_goto (pc' := 124) rfl rfl ?_
            refine wp_istore_n (pc' := 125) rfl rfl (Nat.le_of_ble_eq_true rfl) rfl ?_
            dsimp only [lset, lset2, List.set, List.getElem?_cons_zero, List.getElem?_cons_succ]
            refine wp_iinc (pc' := 128) rfl rfl rfl (inc_id (by omega) (by omega)) rfl ?_
            dsimp only [lset, lset2, List.set, List.getElem?_cons_zero, List.getElem?_cons_succ]
            refine wp_goto (pc' := 46) rfl rfl ?_
            subst hy
            have hcm := @fHs_all (w 108) m (w 100 10) hn.2 hgw
            refine ih (m + 1) _ _ w2 _ (by omega) (by omega) ?_ hSw
            rw [bySt]
            first
            | (rw [if_pos ⟨by omega, by omega⟩])
            | (rw [if_neg (fun z => by have z1 := z.1; have z2 := z.2; omega)]; exact hb)
