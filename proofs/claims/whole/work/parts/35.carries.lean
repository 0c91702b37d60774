/-! carries -/
def ldSt (f : Int → Int) : Nat → Int × Int
  | 0 => (0, 0)
  | m + 1 => if (ldSt f m).1 < f m then (f m, (ldSt f m).1) else ((ldSt f m).1, if (ldSt f m).2 < f m then f m else (ldSt f m).2)
def sLead (f : Int → Int) : Int := (ldSt f 5).1 - (ldSt f 5).2
theorem ldSt_in {f : Int → Int} (h : ∀ j : Int, 0 ≤ j → j < 5 → 0 ≤ f j ∧ f j ≤ 54) : ∀ m : Nat, m ≤ 5 → 0 ≤ (ldSt f m).1 ∧ (ldSt f m).1 ≤ 54 ∧ 0 ≤ (ldSt f m).2 ∧ (ldSt f m).2 ≤ 54 := by
  intro m
  induction m with
  | zero => intro _; simp [ldSt]
  | succ m ih =>
    intro hm
    have h1 := ih (by omega)
    have h2 := h m (by omega) (by omega)
    unfold ldSt
    split
    · dsimp only; omega
    · dsimp only; split <;> omega
theorem ldSt_congr {f g : Int → Int} (h : ∀ j : Int, 0 ≤ j → j < 5 → f j = g j) : ∀ m : Nat, m ≤ 5 → ldSt f m = ldSt g m := by
  intro m
  induction m with
  | zero => intro _; rfl
  | succ m ih =>
    intro hm
    unfold ldSt
    rw [ih (by omega), h m (by omega) (by omega)]
theorem sLead_congr {f g : Int → Int} (h : ∀ j : Int, 0 ≤ j → j < 5 → f j = g j) : sLead f = sLead g := by
  unfold sLead
  rw [ldSt_congr h 5 (Nat.le_refl 5)]
set_option maxRecDepth 20000 in
set_option maxHeartbeats 4000000 in
theorem l_lead {w : Hp} {d : Nat} (hT : Stc w) (hf : ∀ j : Int, 0 ≤ j → j < 5 → 0 ≤ w 25 j ∧ w 25 j ≤ 54) : ∀ (k m : Nat) (a b y : Int), m + k = 5 → (a, b) = ldSt (w 25) m → y = m → WP SH d 6 6 [some (vR 23), some (vI a), some (vI b), some (vI y)] [] w (fun v w' => v = some (vI (sLead (w 25))) ∧ w' = w) := by
  intro k
  induction k with
  | zero =>
    intro m a b y hmk hab hy
    have hli := ldSt_in hf m (by omega)
    rw [← hab] at hli
    dsimp only at hli
    refine wp_iload_n (pc' := 7) rfl rfl rfl ?_
    refine wp_iconst (a := 5) (pc' := 8) rfl rfl rfl ?_
    refine wp_icmp_ge (pc' := 11) (pt := 50) rfl rfl rfl (fun q_1 => ?_) (fun q_1 => ?_)
    · skip
      refine wp_iload_n (pc' := 51) rfl rfl rfl ?_
      refine wp_iload_n (pc' := 52) rfl rfl rfl ?_
      refine wp_isub (pc' := 53) rfl rfl (by first | exact w32_id (by omega) (by omega) | rfl) ?_
      refine wp_ret rfl rfl rfl ?_
      obtain rfl : m = 5 := by omega
      exact ⟨by unfold sLead; rw [← hab], rfl⟩
    · skip
      exfalso; omega
  | succ k ih =>
    intro m a b y hmk hab hy
    have hli := ldSt_in hf m (by omega)
    rw [← hab] at hli
    dsimp only at hli
    refine wp_iload_n (pc' := 7) rfl rfl rfl ?_
    refine wp_iconst (a := 5) (pc' := 8) rfl rfl rfl ?_
    refine wp_icmp_ge (pc' := 11) (pt := 50) rfl rfl rfl (fun q_1 => ?_) (fun q_1 => ?_)
    · skip
      exfalso; omega
    · skip
      refine wp_aload_n (pc' := 12) rfl rfl rfl (by decide) ?_
      refine wp_getR (r' := 25) (ci := 0) (k0 := 1) (pc' := 15) rfl rfl (by decide) (by first | assumption | rfl) (hT.get 43 rfl) ?_
      refine wp_iload_n (pc' := 16) rfl rfl rfl ?_
      refine wp_iaload (pc' := 17) rfl rfl (by first | assumption | rfl) (by omega) ?_
      refine wp_iload_n (pc' := 18) rfl rfl rfl ?_
      refine wp_icmp_le (pc' := 21) (pt := 33) rfl rfl rfl (fun q_2 => ?_) (fun q_2 => ?_)
      · skip
        refine wp_iload_n (pc' := 34) rfl rfl rfl ?_
        refine wp_aload_n (pc' := 35) rfl rfl rfl (by decide) ?_
        refine wp_getR (r' := 25) (ci := 0) (k0 := 1) (pc' := 38) rfl rfl (by decide) (by first | assumption | rfl) (hT.get 43 rfl) ?_
        refine wp_iload_n (pc' := 39) rfl rfl rfl ?_
        refine wp_iaload (pc' := 40) rfl rfl (by first | assumption | rfl) (by omega) ?_
        refine wp_max (pc' := 43) rfl rfl (Nat.le_of_ble_eq_true rfl) rfl ?_
        refine wp_istore_n (pc' := 44) rfl rfl (Nat.le_of_ble_eq_true rfl) rfl ?_
        dsimp only [lset, lset2, List.set, List.getElem?_cons_zero, List.getElem?_cons_succ]
        refine wp_iinc (pc' := 47) rfl rfl rfl (inc_id (by omega) (by omega)) rfl ?_
        dsimp only [lset, lset2, List.set, List.getElem?_cons_zero, List.getElem?_cons_succ]
        refine wp_goto (pc' := 6) rfl rfl ?_
        exact ih (m + 1) _ _ _ (by omega) (by rw [ldSt, ← hab]; dsimp only; subst hy; (repeat' split) <;> first | rfl | (exfalso; omega)) (by omega)
      · skip
        refine wp_iload_n (pc' := 22) rfl rfl rfl ?_
        refine wp_istore_n (pc' := 23) rfl rfl (Nat.le_of_ble_eq_true rfl) rfl ?_
        dsimp only [lset, lset2, List.set, List.getElem?_cons_zero, List.getElem?_cons_succ]
        refine wp_aload_n (pc' := 24) rfl rfl rfl (by decide) ?_
        refine wp_getR (r' := 25) (ci := 0) (k0 := 1) (pc' := 27) rfl rfl (by decide) (by first | assumption | rfl) (hT.get 43 rfl) ?_
        refine wp_iload_n (pc' := 28) rfl rfl rfl ?_
        refine wp_iaload (pc' := 29) rfl rfl (by first | assumption | rfl) (by omega) ?_
        refine wp_istore_n (pc' := 30) rfl rfl (Nat.le_of_ble_eq_true rfl) rfl ?_
        dsimp only [lset, lset2, List.set, List.getElem?_cons_zero, List.getElem?_cons_succ]
        refine wp_goto (pc' := 44) rfl rfl ?_
        refine wp_iinc (pc' := 47) rfl rfl rfl (inc_id (by omega) (by omega)) rfl ?_
        dsimp only [lset, lset2, List.set, List.getElem?_cons_zero, List.getElem?_cons_succ]
        refine wp_goto (pc' := 6) rfl rfl ?_
        exact ih (m + 1) _ _ _ (by omega) (by rw [ldSt, ← hab]; dsimp only; subst hy; (repeat' split) <;> first | rfl | (exfalso; omega)) (by omega)
set_option maxRecDepth 20000 in
set_option maxHeartbeats 4000000 in
theorem c_Ballot_lead {w : Hp} {d : Nat} (hT : Stc w) (hf : ∀ j : Int, 0 ≤ j → j < 5 → 0 ≤ w 25 j ∧ w 25 j ≤ 54) : WP SH (d + 0) 6 0 [some (vR 23), none, none, none] [] w (fun v w' => v = some (vI (sLead (w 25))) ∧ w' = w) := by
  refine wp_iconst (a := 0) (pc' := 1) rfl rfl rfl ?_
  refine wp_istore_n (pc' := 2) rfl rfl (Nat.le_of_ble_eq_true rfl) rfl ?_
  dsimp only [lset, lset2, List.set, List.getElem?_cons_zero, List.getElem?_cons_succ]
  refine wp_iconst (a := 0) (pc' := 3) rfl rfl rfl ?_
  refine wp_istore_n (pc' := 4) rfl rfl (Nat.le_of_ble_eq_true rfl) rfl ?_
  dsimp only [lset, lset2, List.set, List.getElem?_cons_zero, List.getElem?_cons_succ]
  refine wp_iconst (a := 0) (pc' := 5) rfl rfl rfl ?_
  refine wp_istore_n (pc' := 6) rfl rfl (Nat.le_of_ble_eq_true rfl) rfl ?_
  dsimp only [lset, lset2, List.set, List.getElem?_cons_zero, List.getElem?_cons_succ]
  exact l_lead hT hf 5 0 _ _ _ rfl rfl rfl
set_option maxRecDepth 20000 in
set_option maxHeartbeats 4000000 in
theorem l_Mcarries {w : Hp} {d : Nat} {Q : Option PV → Hp → Prop} (hT : Stc w) (hf : ∀ j : Int, 0 ≤ j → j < 5 → 0 ≤ w 113 j ∧ w 113 j ≤ 54) (K : WP SH d 199 105 [some (vR 100), some (vI (ldSt (w 113) 5).1), some (vI (ldSt (w 113) 5).2), some (vI 5)] [] w Q) : ∀ (k m : Nat) (a b y : Int), m + k = 5 → (a, b) = ldSt (w 113) m → y = m → WP SH d 199 38 [some (vR 100), some (vI a), some (vI b), some (vI y)] [] w Q := by
  intro k
  induction k with
  | zero =>
    intro m a b y hmk hab hy
    have hli := ldSt_in hf m (by omega)
    rw [← hab] at hli
    dsimp only at hli
    refine wp_iload_n (pc' := 39) rfl rfl rfl ?_
    refine wp_iconst (a := 4) (pc' := 40) rfl rfl rfl ?_
    refine wp_icmp_gt (pc' := 43) (pt := 105) rfl rfl rfl (fun q_1 => ?_) (fun q_1 => ?_)
    · skip
      obtain rfl : m = 5 := by omega
      rw [← hab] at K
      subst hy
      exact K
    · skip
      exfalso; omega
  | succ k ih =>
    intro m a b y hmk hab hy
    have hli := ldSt_in hf m (by omega)
    rw [← hab] at hli
    dsimp only at hli
    refine wp_iload_n (pc' := 39) rfl rfl rfl ?_
    refine wp_iconst (a := 4) (pc' := 40) rfl rfl rfl ?_
    refine wp_icmp_gt (pc' := 43) (pt := 105) rfl rfl rfl (fun q_1 => ?_) (fun q_1 => ?_)
    · skip
      exfalso; omega
    · skip
      refine wp_aload_n (pc' := 44) rfl rfl rfl (by decide) ?_
      refine wp_getR (r' := 113) (ci := 10) (k0 := 22) (pc' := 47) rfl rfl (by decide) (by first | assumption | rfl) (hT.get 111 rfl) ?_
      refine wp_iload_n (pc' := 48) rfl rfl rfl ?_
      refine wp_iaload (pc' := 49) rfl rfl (by first | assumption | rfl) (by omega) ?_
      refine wp_iload_n (pc' := 50) rfl rfl rfl ?_
      refine wp_icmp_le (pc' := 53) (pt := 57) rfl rfl rfl (fun q_2 => ?_) (fun q_2 => ?_)
      · skip
        refine wp_aload_n (pc' := 58) rfl rfl rfl (by decide) ?_
        refine wp_getR (r' := 113) (ci := 10) (k0 := 22) (pc' := 61) rfl rfl (by decide) (by first | assumption | rfl) (hT.get 111 rfl) ?_
        refine wp_iload_n (pc' := 62) rfl rfl rfl ?_
        refine wp_iaload (pc' := 63) rfl rfl (by first | assumption | rfl) (by omega) ?_
        refine wp_iload_n (pc' := 64) rfl rfl rfl ?_
        refine wp_icmp_le (pc' := 67) (pt := 76) rfl rfl rfl (fun q_3 => ?_) (fun q_3 => ?_)
        · skip
          refine wp_iload_n (pc' := 77) rfl rfl rfl ?_
          refine wp_istore_n (pc' := 78) rfl rfl (Nat.le_of_ble_eq_true rfl) rfl ?_
          dsimp only [lset, lset2, List.set, List.getElem?_cons_zero, List.getElem?_cons_succ]
          refine wp_aload_n (pc' := 79) rfl rfl rfl (by decide) ?_
          refine wp_getR (r' := 113) (ci := 10) (k0 := 22) (pc' := 82) rfl rfl (by decide) (by first | assumption | rfl) (hT.get 111 rfl) ?_
          refine wp_iload_n (pc' := 83) rfl rfl rfl ?_
          refine wp_iaload (pc' := 84) rfl rfl (by first | assumption | rfl) (by omega) ?_
          refine wp_iload_n (pc' := 85) rfl rfl rfl ?_
          refine wp_icmp_le (pc' := 88) (pt := 97) rfl rfl rfl (fun q_4 => ?_) (fun q_4 => ?_)
          · skip
            refine wp_iload_n (pc' := 98) rfl rfl rfl ?_
            refine wp_istore_n (pc' := 99) rfl rfl (Nat.le_of_ble_eq_true rfl) rfl ?_
            dsimp only [lset, lset2, List.set, List.getElem?_cons_zero, List.getElem?_cons_succ]
            refine wp_iinc (pc' := 102) rfl rfl rfl (inc_id (by omega) (by omega)) rfl ?_
            dsimp only [lset, lset2, List.set, List.getElem?_cons_zero, List.getElem?_cons_succ]
            refine wp_goto (pc' := 38) rfl rfl ?_
            first
            | (exfalso; omega)
            | exact ih (m + 1) _ _ _ (by omega) (by rw [ldSt, ← hab]; dsimp only; subst hy; (repeat' split) <;> first | rfl | (exfalso; omega)) (by omega)
          · skip
            refine wp_aload_n (pc' := 89) rfl rfl rfl (by decide) ?_
            refine wp_getR (r' := 113) (ci := 10) (k0 := 22) (pc' := 92) rfl rfl (by decide) (by first | assumption | rfl) (hT.get 111 rfl) ?_
            refine wp_iload_n (pc' := 93) rfl rfl rfl ?_
            refine wp_iaload (pc' := 94) rfl rfl (by first | assumption | rfl) (by omega) ?_
            refine wp_goto (pc' := 98) rfl rfl ?_
            refine wp_istore_n (pc' := 99) rfl rfl (Nat.le_of_ble_eq_true rfl) rfl ?_
            dsimp only [lset, lset2, List.set, List.getElem?_cons_zero, List.getElem?_cons_succ]
            refine wp_iinc (pc' := 102) rfl rfl rfl (inc_id (by omega) (by omega)) rfl ?_
            dsimp only [lset, lset2, List.set, List.getElem?_cons_zero, List.getElem?_cons_succ]
            refine wp_goto (pc' := 38) rfl rfl ?_
            first
            | (exfalso; omega)
            | exact ih (m + 1) _ _ _ (by omega) (by rw [ldSt, ← hab]; dsimp only; subst hy; (repeat' split) <;> first | rfl | (exfalso; omega)) (by omega)
        · skip
          refine wp_aload_n (pc' := 68) rfl rfl rfl (by decide) ?_
          refine wp_getR (r' := 113) (ci := 10) (k0 := 22) (pc' := 71) rfl rfl (by decide) (by first | assumption | rfl) (hT.get 111 rfl) ?_
          refine wp_iload_n (pc' := 72) rfl rfl rfl ?_
          refine wp_iaload (pc' := 73) rfl rfl (by first | assumption | rfl) (by omega) ?_
          refine wp_goto (pc' := 77) rfl rfl ?_
          refine wp_istore_n (pc' := 78) rfl rfl (Nat.le_of_ble_eq_true rfl) rfl ?_
          dsimp only [lset, lset2, List.set, List.getElem?_cons_zero, List.getElem?_cons_succ]
          refine wp_aload_n (pc' := 79) rfl rfl rfl (by decide) ?_
          refine wp_getR (r' := 113) (ci := 10) (k0 := 22) (pc' := 82) rfl rfl (by decide) (by first | assumption | rfl) (hT.get 111 rfl) ?_
          refine wp_iload_n (pc' := 83) rfl rfl rfl ?_
          refine wp_iaload (pc' := 84) rfl rfl (by first | assumption | rfl) (by omega) ?_
          refine wp_iload_n (pc' := 85) rfl rfl rfl ?_
          refine wp_icmp_le (pc' := 88) (pt := 97) rfl rfl rfl (fun q_5 => ?_) (fun q_5 => ?_)
          · skip
            refine wp_iload_n (pc' := 98) rfl rfl rfl ?_
            refine wp_istore_n (pc' := 99) rfl rfl (Nat.le_of_ble_eq_true rfl) rfl ?_
            dsimp only [lset, lset2, List.set, List.getElem?_cons_zero, List.getElem?_cons_succ]
            refine wp_iinc (pc' := 102) rfl rfl rfl (inc_id (by omega) (by omega)) rfl ?_
            dsimp only [lset, lset2, List.set, List.getElem?_cons_zero, List.getElem?_cons_succ]
            refine wp_goto (pc' := 38) rfl rfl ?_
            first
            | (exfalso; omega)
            | exact ih (m + 1) _ _ _ (by omega) (by rw [ldSt, ← hab]; dsimp only; subst hy; (repeat' split) <;> first | rfl | (exfalso; omega)) (by omega)
          · skip
            refine wp_aload_n (pc' := 89) rfl rfl rfl (by decide) ?_
            refine wp_getR (r' := 113) (ci := 10) (k0 := 22) (pc' := 92) rfl rfl (by decide) (by first | assumption | rfl) (hT.get 111 rfl) ?_
            refine wp_iload_n (pc' := 93) rfl rfl rfl ?_
            refine wp_iaload (pc' := 94) rfl rfl (by first | assumption | rfl) (by omega) ?_
            refine wp_goto (pc' := 98) rfl rfl ?_
            refine wp_istore_n (pc' := 99) rfl rfl (Nat.le_of_ble_eq_true rfl) rfl ?_
            dsimp only [lset, lset2, List.set, List.getElem?_cons_zero, List.getElem?_cons_succ]
            refine wp_iinc (pc' := 102) rfl rfl rfl (inc_id (by omega) (by omega)) rfl ?_
            dsimp only [lset, lset2, List.set, List.getElem?_cons_zero, List.getElem?_cons_succ]
            refine wp_goto (pc' := 38) rfl rfl ?_
            first
            | (exfalso; omega)
            | exact ih (m + 1) _ _ _ (by omega) (by rw [ldSt, ← hab]; dsimp only; subst hy; (repeat' split) <;> first | rfl | (exfalso; omega)) (by omega)
      · skip
        refine wp_iload_n (pc' := 54) rfl rfl rfl ?_
        refine wp_goto (pc' := 77) rfl rfl ?_
        refine wp_istore_n (pc' := 78) rfl rfl (Nat.le_of_ble_eq_true rfl) rfl ?_
        dsimp only [lset, lset2, List.set, List.getElem?_cons_zero, List.getElem?_cons_succ]
        refine wp_aload_n (pc' := 79) rfl rfl rfl (by decide) ?_
        refine wp_getR (r' := 113) (ci := 10) (k0 := 22) (pc' := 82) rfl rfl (by decide) (by first | assumption | rfl) (hT.get 111 rfl) ?_
        refine wp_iload_n (pc' := 83) rfl rfl rfl ?_
        refine wp_iaload (pc' := 84) rfl rfl (by first | assumption | rfl) (by omega) ?_
        refine wp_iload_n (pc' := 85) rfl rfl rfl ?_
        refine wp_icmp_le (pc' := 88) (pt := 97) rfl rfl rfl (fun q_6 => ?_) (fun q_6 => ?_)
        · skip
          refine wp_iload_n (pc' := 98) rfl rfl rfl ?_
          refine wp_istore_n (pc' := 99) rfl rfl (Nat.le_of_ble_eq_true rfl) rfl ?_
          dsimp only [lset, lset2, List.set, List.getElem?_cons_zero, List.getElem?_cons_succ]
          refine wp_iinc (pc' := 102) rfl rfl rfl (inc_id (by omega) (by omega)) rfl ?_
          dsimp only [lset, lset2, List.set, List.getElem?_cons_zero, List.getElem?_cons_succ]
          refine wp_goto (pc' := 38) rfl rfl ?_
          first
          | (exfalso; omega)
          | exact ih (m + 1) _ _ _ (by omega) (by rw [ldSt, ← hab]; dsimp only; subst hy; (repeat' split) <;> first | rfl | (exfalso; omega)) (by omega)
        · skip
          refine wp_aload_n (pc' := 89) rfl rfl rfl (by decide) ?_
          refine wp_getR (r' := 113) (ci := 10) (k0 := 22) (pc' := 92) rfl rfl (by decide) (by first | assumption | rfl) (hT.get 111 rfl) ?_
          refine wp_iload_n (pc' := 93) rfl rfl rfl ?_
          refine wp_iaload (pc' := 94) rfl rfl (by first | assumption | rfl) (by omega) ?_
          refine wp_goto (pc' := 98) rfl rfl ?_
          refine wp_istore_n (pc' := 99) rfl rfl (Nat.le_of_ble_eq_true rfl) rfl ?_
          dsimp only [lset, lset2, List.set, List.getElem?_cons_zero, List.getElem?_cons_succ]
          refine wp_iinc (pc' := 102) rfl rfl rfl (inc_id (by omega) (by omega)) rfl ?_
          dsimp only [lset, lset2, List.set, List.getElem?_cons_zero, List.getElem?_cons_succ]
          refine wp_goto (pc' := 38) rfl rfl ?_
          first
          | (exfalso; omega)
          | exact ih (m + 1) _ _ _ (by omega) (by rw [ldSt, ← hab]; dsimp only; subst hy; (repeat' split) <;> first | rfl | (exfalso; omega)) (by omega)
set_option maxRecDepth 20000 in
set_option maxHeartbeats 4000000 in
theorem p_carries {w : Hp} {d : Nat} (hI : Inv w) : WP SH (d + 9) 100 0 [some (vR 0)] [] w (fun v0 w1 => ∃ a, v0 = some (vI a) ∧ w1 (-2) = w (-2) ∧ WP SH (d + 9) 199 0 [some (vR 100), none, none, none] [] w1 (fun v2 w2 => v2 = some (vI a) ∧ w2 (-2) = w1 (-2) ∧ Inv w2)) := by
  obtain ⟨hT, hRO, hIF, hITo, hIR, hIT, hIL, hIK⟩ := id hI
  obtain ⟨hn25, b11, b12, b10, hn6, hem, m0, m1, m2, m23, hyr, hdd, hpre⟩ := hI.base
  have hmm : w 100 11 * w 100 12 = w 3 0 * w 3 1 := by rw [b11, b12]
  refine wp_aload_n (pc' := 1) rfl rfl rfl (by decide) ?_
  refine wp_getR (r' := 3) (ci := 9) (k0 := 2) (pc' := 4) rfl rfl (by decide) (by first | assumption | rfl) (hT.get 2 rfl) ?_
  refine wp_call (pc' := 7) rfl rfl rfl rfl rfl ⟨Nat.le_of_ble_eq_true rfl, Nat.le_of_ble_eq_true rfl, Nat.le_of_ble_eq_true rfl, Nat.le_of_ble_eq_true rfl, Nat.le_of_ble_eq_true rfl⟩ rfl (c_Land_isEmpty_3) ?_
  rintro v1 w9 ⟨hw9, ⟨hv1, he⟩ | ⟨hv1, he⟩⟩
  · skip
    rw [hv1, hw9]
    clear hv1 hw9 v1 w9
    dsimp only [Option.toList, List.cons_append, List.nil_append, List.append_nil]
    refine wp_if_eq (pc' := 10) (pt := 13) rfl rfl rfl (fun q_1 => absurd q_1 (by decide)) (fun q_1 => ?_)
    refine wp_bipush (a := -4) (pc' := 12) rfl rfl rfl ?_
    refine wp_ret rfl rfl rfl ?_
    refine ⟨_, rfl, ?_, ?_⟩
    · rfl
    refine wp_aload_n (pc' := 1) rfl rfl rfl (by decide) ?_
    refine wp_getI (ci := 10) (k0 := 10) (pc' := 4) rfl rfl (by decide) (by first | assumption | rfl) ?_
    refine wp_if_ne (pc' := 7) (pt := 10) rfl rfl rfl (fun q_52 => ?_) (fun q_52 => ?_)
    · skip
      exfalso; omega
    · skip
      refine wp_bipush (a := -4) (pc' := 9) rfl rfl rfl ?_
      refine wp_ret rfl rfl rfl ?_
      first
      | (exfalso; omega)
      | exact ⟨rfl, rfl, hI⟩
      | (refine ⟨by rw [show sWin (w4 113) = sWin (fHp (w 3 0) (w 3 1) (w 3 2) (w 4) (w 5) (w 6) (w 3 3) (w 3 4)) from sWin_congr (fun j a b => hz5 j a (by omega))], ?_, hI.query (w' := w6) ?_ ?_⟩
         · rw [hw6, up_ne (by decide), hS4 _ (by decide)]
         · rw [hw6]
           exact hS4Q.put (Or.inr (by decide))
         · rw [hw6, up_eq, up_ne (by decide), hS4 0 (by decide), e314]
           exact (sLead_congr hz5).symm)
  · skip
    rw [hv1, hw9]
    clear hv1 hw9 v1 w9
    have hpr := hpre (by omega)
    dsimp only [Option.toList, List.cons_append, List.nil_append, List.append_nil]
    refine wp_if_eq (pc' := 10) (pt := 13) rfl rfl rfl (fun q_53 => ?_) (fun q_53 => absurd (by decide) q_53)
    refine wp_aload_n (pc' := 14) rfl rfl rfl (by decide) ?_
    refine wp_getR (r' := 23) (ci := 9) (k0 := 6) (pc' := 17) rfl rfl (by decide) (by first | assumption | rfl) (hT.get 6 rfl) ?_
    refine wp_aload_n (pc' := 18) rfl rfl rfl (by decide) ?_
    refine wp_getR (r' := 3) (ci := 9) (k0 := 2) (pc' := 21) rfl rfl (by decide) (by first | assumption | rfl) (hT.get 2 rfl) ?_
    refine wp_aload_n (pc' := 22) rfl rfl rfl (by decide) ?_
    refine wp_getR (r' := 3) (ci := 9) (k0 := 2) (pc' := 25) rfl rfl (by decide) (by first | assumption | rfl) (hT.get 2 rfl) ?_
    refine wp_getI (ci := 3) (k0 := 3) (pc' := 28) rfl rfl (by decide) (by first | assumption | rfl) ?_
    refine wp_aload_n (pc' := 29) rfl rfl rfl (by decide) ?_
    refine wp_getR (r' := 3) (ci := 9) (k0 := 2) (pc' := 32) rfl rfl (by decide) (by first | assumption | rfl) (hT.get 2 rfl) ?_
    refine wp_getI (ci := 3) (k0 := 4) (pc' := 35) rfl rfl (by decide) (by first | assumption | rfl) ?_
    refine wp_call (pc' := 38) rfl rfl rfl rfl rfl ⟨Nat.le_of_ble_eq_true rfl, Nat.le_of_ble_eq_true rfl, Nat.le_of_ble_eq_true rfl, Nat.le_of_ble_eq_true rfl, Nat.le_of_ble_eq_true rfl⟩ rfl (c_Ballot_hold hT hRO hpr.1 hpr.2.2.1) ?_
    rintro v1 w1 ⟨hv1, hS1, hc1, hz1⟩
    rw [hv1]
    clear hv1 v1
    have hT := hT.same hS1 (by decide)
    have hfx : ∀ j : Int, 0 ≤ j → j < 5 → 0 ≤ w1 25 j ∧ w1 25 j ≤ 54 := fun j a b => by
      rw [hz1 j a b]
      exact heap_bd (by omega) (by omega) (fun j a b => (hpr.1.2.2 j a b).2.2)
    dsimp only [Option.toList, List.cons_append, List.nil_append, List.append_nil]
    refine wp_aload_n (pc' := 39) rfl rfl rfl (by decide) ?_
    refine wp_aload_n (pc' := 40) rfl rfl rfl (by decide) ?_
    refine wp_getR (r' := 23) (ci := 9) (k0 := 6) (pc' := 43) rfl rfl (by decide) (by first | assumption | rfl) (hT.get 6 rfl) ?_
    refine wp_call (pc' := 46) rfl rfl rfl rfl rfl ⟨Nat.le_of_ble_eq_true rfl, Nat.le_of_ble_eq_true rfl, Nat.le_of_ble_eq_true rfl, Nat.le_of_ble_eq_true rfl, Nat.le_of_ble_eq_true rfl⟩ rfl (c_Ballot_lead hT hfx) ?_
    intro v1 w9 hq1
    rw [hq1.1, hq1.2]
    clear hq1 v1 w9
    have hld : sLead (w1 25) = sLead (fHp (w 3 0) (w 3 1) (w 3 2) (w 4) (w 5) (w 6) (w 3 3) (w 3 4)) := sLead_congr hz1
    rw [hld]
    dsimp only [Option.toList, List.cons_append, List.nil_append, List.append_nil]
    refine wp_putI (ci := 9) (k0 := 14) (pc' := 49) rfl rfl (by decide) (by first | assumption | rfl) ?_
    have hT := hT.putF (r := 0) (i := 14) (x := sLead (fHp (w 3 0) (w 3 1) (w 3 2) (w 4) (w 5) (w 6) (w 3 3) (w 3 4))) (by decide)
    refine wp_aload_n (pc' := 50) rfl rfl rfl (by decide) ?_
    refine wp_getR (r' := 23) (ci := 9) (k0 := 6) (pc' := 53) rfl rfl (by decide) (by first | assumption | rfl) (hT.get 6 rfl) ?_
    refine wp_call (pc' := 56) rfl rfl rfl rfl rfl ⟨Nat.le_of_ble_eq_true rfl, Nat.le_of_ble_eq_true rfl, Nat.le_of_ble_eq_true rfl, Nat.le_of_ble_eq_true rfl, Nat.le_of_ble_eq_true rfl⟩ rfl (c_Ballot_winner hT) ?_
    intro v1 w9 hq1
    rw [hq1.1, hq1.2]
    clear hq1 v1 w9
    rw [up_ne (show (25 : Int) ≠ 0 by decide), show sWin (w1 25) = sWin (fHp (w 3 0) (w 3 1) (w 3 2) (w 4) (w 5) (w 6) (w 3 3) (w 3 4)) from sWin_congr (fun j a b => hz1 j a (by omega))]
    dsimp only [Option.toList, List.cons_append, List.nil_append, List.append_nil]
    refine wp_ret rfl rfl rfl ?_
    refine ⟨_, rfl, ?_, ?_⟩
    · rw [up_ne (by decide), hS1 _ (by decide)]
    obtain ⟨w3, hw3⟩ : ∃ w3, w3 = up w1 0 14 (sLead (fHp (w 3 0) (w 3 1) (w 3 2) (w 4) (w 5) (w 6) (w 3 3) (w 3 4))) := ⟨_, rfl⟩
    rw [← hw3]
    have hT : Stc w3 := by rw [hw3]; exact hT
    have hS3 : SameF w w3 LQ FQ := by rw [hw3]; exact (qry (hS1.F []) (by decide) (by decide)).put (Or.inr (by decide))
    have e314 : w3 0 14 = sLead (fHp (w 3 0) (w 3 1) (w 3 2) (w 4) (w 5) (w 6) (w 3 3) (w 3 4)) := by rw [hw3, up_eq]
    have e310 : w3 100 10 = w 100 10 := hS3 100 10 (by decide) (by decide)
    have f311 : w3 100 11 = w 3 0 := (hS3 100 11 (by decide) (by decide)).trans b11
    have f312 : w3 100 12 = w 3 1 := (hS3 100 12 (by decide) (by decide)).trans b12
    have f310 : w3 100 10 = w 3 2 := (hS3 100 10 (by decide) (by decide)).trans b10
    have f307 : w3 107 = w 107 := hS3.cell 107 (by decide) (by decide)
    have f308 : w3 108 = w 108 := hS3.cell 108 (by decide) (by decide)
    have f309 : w3 109 = w 109 := hS3.cell 109 (by decide) (by decide)
    have hp3 : MdOK w3 := by
      unfold MdOK
      rw [hS3 100 11 (by decide) (by decide), hS3 100 12 (by decide) (by decide), e310, f307, f308, f309]
      exact hpr.2.1
    have hx3 : Cel (w3 100 11) (w3 100 12) (w3 109 0) := by rw [f311, f312, f309, m0]; exact hpr.2.2.1
    refine wp_aload_n (pc' := 1) rfl rfl rfl (by decide) ?_
    refine wp_getI (ci := 10) (k0 := 10) (pc' := 4) rfl rfl (by decide) (by first | assumption | rfl) ?_
    refine wp_if_ne (pc' := 7) (pt := 10) rfl rfl rfl (fun q_104 => ?_) (fun q_104 => ?_)
    · skip
      refine wp_aload_n (pc' := 11) rfl rfl rfl (by decide) ?_
      refine wp_aload_n (pc' := 12) rfl rfl rfl (by decide) ?_
      refine wp_getR (r' := 109) (ci := 10) (k0 := 15) (pc' := 15) rfl rfl (by decide) (by first | assumption | rfl) (hT.get 107 rfl) ?_
      refine wp_iconst (a := 0) (pc' := 16) rfl rfl rfl ?_
      refine wp_iaload (pc' := 17) rfl rfl (by first | assumption | rfl) (by omega) ?_
      refine wp_aload_n (pc' := 18) rfl rfl rfl (by decide) ?_
      refine wp_getR (r' := 109) (ci := 10) (k0 := 15) (pc' := 21) rfl rfl (by decide) (by first | assumption | rfl) (hT.get 107 rfl) ?_
      refine wp_iconst (a := 1) (pc' := 22) rfl rfl rfl ?_
      refine wp_iaload (pc' := 23) rfl rfl (by first | assumption | rfl) (by omega) ?_
      refine wp_aload_n (pc' := 24) rfl rfl rfl (by decide) ?_
      refine wp_call (pc' := 27) rfl rfl rfl rfl rfl ⟨Nat.le_of_ble_eq_true rfl, Nat.le_of_ble_eq_true rfl, Nat.le_of_ble_eq_true rfl, Nat.le_of_ble_eq_true rfl, Nat.le_of_ble_eq_true rfl⟩ rfl (c_Mod_everybody hp3.2.1) ?_
      intro v1 w9 hq1
      rw [hq1.1, hq1.2]
      clear hq1 v1 w9
      dsimp only [Option.toList, List.cons_append, List.nil_append, List.append_nil]
      refine wp_iconst (a := 0) (pc' := 28) rfl rfl rfl ?_
      refine wp_iconst (a := 0) (pc' := 29) rfl rfl rfl ?_
      refine wp_call (pc' := 32) rfl rfl rfl rfl rfl ⟨Nat.le_of_ble_eq_true rfl, Nat.le_of_ble_eq_true rfl, Nat.le_of_ble_eq_true rfl, Nat.le_of_ble_eq_true rfl, Nat.le_of_ble_eq_true rfl⟩ rfl (c_Mod_layCounts hT hp3 hx3 (by decide)) ?_
      rintro v1 w4 ⟨hv1, hS4, hz4⟩
      rw [hv1]
      clear hv1 v1
      have hz5 : ∀ j : Int, 0 ≤ j → j < 5 → w4 113 j = (fHp (w 3 0) (w 3 1) (w 3 2) (w 4) (w 5) (w 6) (w 3 3) (w 3 4)) j := fun j a b => by
        rw [hz4 j a b, vOfM_all hp3.2.1, f310, f311, f312, f307, f308, f309, m0, m1]
        exact fHp_congr (fun j a b => hpr.2.2.2.2 j a b) j
      have hT := hT.same hS4 (by decide)
      have hS4Q : SameF w w4 LQ FQ := hS3.tr (qry (hS4.F []) (by decide) (by decide))
      have hfy : ∀ j : Int, 0 ≤ j → j < 5 → 0 ≤ w4 113 j ∧ w4 113 j ≤ 54 := fun j a b => by
        rw [hz5 j a b]
        exact heap_bd (by omega) (by omega) (fun j a b => (hpr.1.2.2 j a b).2.2)
      have hli := ldSt_in hfy 5 (by decide)
      dsimp only [Option.toList, List.cons_append, List.nil_append, List.append_nil]
      refine wp_iconst (a := 0) (pc' := 33) rfl rfl rfl ?_
      refine wp_istore_n (pc' := 34) rfl rfl (Nat.le_of_ble_eq_true rfl) rfl ?_
      dsimp only [lset, lset2, List.set, List.getElem?_cons_zero, List.getElem?_cons_succ]
      refine wp_iconst (a := 0) (pc' := 35) rfl rfl rfl ?_
      refine wp_istore_n (pc' := 36) rfl rfl (Nat.le_of_ble_eq_true rfl) rfl ?_
      dsimp only [lset, lset2, List.set, List.getElem?_cons_zero, List.getElem?_cons_succ]
      refine wp_iconst (a := 0) (pc' := 37) rfl rfl rfl ?_
      refine wp_istore_n (pc' := 38) rfl rfl (Nat.le_of_ble_eq_true rfl) rfl ?_
      dsimp only [lset, lset2, List.set, List.getElem?_cons_zero, List.getElem?_cons_succ]
      refine l_Mcarries hT hfy ?_ 5 0 _ _ _ rfl rfl rfl
      refine wp_aload_n (pc' := 106) rfl rfl rfl (by decide) ?_
      refine wp_iload_n (pc' := 107) rfl rfl rfl ?_
      refine wp_iload_n (pc' := 108) rfl rfl rfl ?_
      refine wp_isub (pc' := 109) rfl rfl (by first | exact w32_id (by omega) (by omega) | rfl) ?_
      refine wp_aload_n (pc' := 110) rfl rfl rfl (by decide) ?_
      refine wp_call (pc' := 113) rfl rfl rfl rfl rfl ⟨Nat.le_of_ble_eq_true rfl, Nat.le_of_ble_eq_true rfl, Nat.le_of_ble_eq_true rfl, Nat.le_of_ble_eq_true rfl, Nat.le_of_ble_eq_true rfl⟩ rfl (c_Mod_carried hT) ?_
      intro v1 w9 hq1
      rw [hq1.1, hq1.2]
      clear hq1 v1 w9
      dsimp only [Option.toList, List.cons_append, List.nil_append, List.append_nil]
      refine wp_call (pc' := 116) rfl rfl rfl rfl rfl ⟨Nat.le_of_ble_eq_true rfl, Nat.le_of_ble_eq_true rfl, Nat.le_of_ble_eq_true rfl, Nat.le_of_ble_eq_true rfl, Nat.le_of_ble_eq_true rfl⟩ rfl (c_Mod_tells) ?_
      rintro v1 w6 ⟨hv1, hw6⟩
      rw [hv1]
      clear hv1 v1
      dsimp only [Option.toList, List.cons_append, List.nil_append, List.append_nil]
      refine wp_ret rfl rfl rfl ?_
      first
      | (exfalso; omega)
      | exact ⟨rfl, rfl, hI⟩
      | (refine ⟨by rw [show sWin (w4 113) = sWin (fHp (w 3 0) (w 3 1) (w 3 2) (w 4) (w 5) (w 6) (w 3 3) (w 3 4)) from sWin_congr (fun j a b => hz5 j a (by omega))], ?_, hI.query (w' := w6) ?_ ?_⟩
         · rw [hw6, up_ne (by decide), hS4 _ (by decide)]
         · rw [hw6]
           exact hS4Q.put (Or.inr (by decide))
         · rw [hw6, up_eq, up_ne (by decide), hS4 0 (by decide), e314]
           exact (sLead_congr hz5).symm)
    · skip
      refine wp_bipush (a := -4) (pc' := 9) rfl rfl rfl ?_
      refine wp_ret rfl rfl rfl ?_
      first
      | (exfalso; omega)
      | exact ⟨rfl, rfl, hI⟩
      | (refine ⟨by rw [show sWin (w4 113) = sWin (fHp (w 3 0) (w 3 1) (w 3 2) (w 4) (w 5) (w 6) (w 3 3) (w 3 4)) from sWin_congr (fun j a b => hz5 j a (by omega))], ?_, hI.query (w' := w6) ?_ ?_⟩
         · rw [hw6, up_ne (by decide), hS4 _ (by decide)]
         · rw [hw6]
           exact hS4Q.put (Or.inr (by decide))
         · rw [hw6, up_eq, up_ne (by decide), hS4 0 (by decide), e314]
           exact (sLead_congr hz5).symm)
