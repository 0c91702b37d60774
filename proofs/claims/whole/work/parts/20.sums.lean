/-! sums, bits, which way carries -/
def sumN (f : Int → Int) : Nat → Int
  | 0 => 0
  | m + 1 => sumN f m + f m
def sumI (f : Int → Int) (n : Int) : Int := sumN f n.toNat
theorem sumI_0 (f : Int → Int) : sumI f 0 = 0 := rfl
theorem sumI_s (f : Int → Int) {i : Int} (h : 0 ≤ i) : sumI f (i + 1) = sumI f i + f i := by
  unfold sumI
  rw [show (i + 1).toNat = i.toNat + 1 by omega]
  show sumN f i.toNat + f (i.toNat : Int) = _
  rw [show ((i.toNat : Nat) : Int) = i by omega]
theorem sumN_bd {f : Int → Int} {lo hi : Int} : ∀ {n : Nat}, (∀ j : Int, 0 ≤ j → j < n → lo ≤ f j ∧ f j ≤ hi) → lo * n ≤ sumN f n ∧ sumN f n ≤ hi * n := by
  intro n
  induction n with
  | zero => intro _; simp [sumN]
  | succ n ih =>
    intro h
    have h1 := ih (fun j h0 hj => h j h0 (by omega))
    have h2 := h n (by omega) (by omega)
    unfold sumN
    rw [Int.natCast_add, Int.mul_add, Int.mul_add]
    simp only [Int.natCast_one, Int.mul_one]
    omega
theorem sumI_bd {f : Int → Int} {lo hi n : Int} (h0 : 0 ≤ n) (h : ∀ j : Int, 0 ≤ j → j < n → lo ≤ f j ∧ f j ≤ hi) : lo * n ≤ sumI f n ∧ sumI f n ≤ hi * n := by
  unfold sumI
  have h1 := @sumN_bd f lo hi n.toNat (fun j a b => h j a (by omega))
  rw [show ((n.toNat : Nat) : Int) = n by omega] at h1
  exact h1
theorem sumN_congr {f g : Int → Int} : ∀ {n : Nat}, (∀ j : Int, 0 ≤ j → j < n → f j = g j) → sumN f n = sumN g n := by
  intro n
  induction n with
  | zero => intro _; rfl
  | succ n ih =>
    intro h
    unfold sumN
    rw [ih (fun j a b => h j a (by omega)), h n (by omega) (by omega)]
theorem sumI_congr {f g : Int → Int} {n : Int} (h : ∀ j : Int, 0 ≤ j → j < n → f j = g j) : sumI f n = sumI g n := sumN_congr (fun j a b => h j a (by omega))
theorem mul_bd {a b A B : Int} (h1 : 0 ≤ a) (h2 : a ≤ A) (h3 : 0 ≤ b) (h4 : b ≤ B) : 0 ≤ a * b ∧ a * b ≤ A * B := ⟨Int.mul_nonneg h1 h3, Int.mul_le_mul h2 h4 h3 (Int.le_trans h1 h2)⟩
/-- the land of the class, of the reference: as it must be -/
def LnOK (w : Hp) : Prop := CL (w 3 0) (w 3 1) ∧ (1 ≤ w 3 2 ∧ w 3 2 ≤ 6) ∧ ∀ i : Int, 0 ≤ i → i < w 3 2 → (0 ≤ w 4 i ∧ w 4 i ≤ 5) ∧ Cel (w 3 0) (w 3 1) (w 5 i) ∧ (1 ≤ w 6 i ∧ w 6 i ≤ 9)
def MdOK (w : Hp) : Prop := CL (w 100 11) (w 100 12) ∧ (1 ≤ w 100 10 ∧ w 100 10 ≤ 6) ∧ ∀ i : Int, 0 ≤ i → i < w 100 10 → (0 ≤ w 107 i ∧ w 107 i ≤ 5) ∧ Cel (w 100 11) (w 100 12) (w 109 (3 + i)) ∧ (1 ≤ w 108 i ∧ w 108 i ≤ 9)
/-- what all gain by a cell -/
def fWorth (c : Int) (K H G : Int → Int) (cell : Int) : Int → Int := fun i => G i * sG c (K i) (H i) cell
def bit (s i : Int) : Int := iAnd (iShr s i) 1
theorem bit01 (s i : Int) : bit s i = 0 ∨ bit s i = 1 := by
  unfold bit iAnd
  obtain ⟨j, hj, e⟩ := pk_andE (Int32.ofInt (iShr s i)) (m := Int32.ofInt 1) 1 (by decide)
  rw [e, nI_toInt (by omega)]
  omega
/-- the way of most, and whether it is alone, behind ways 1 .. m -/
def wSt (f : Int → Int) : Nat → Int × Int
  | 0 => (0, 1)
  | m + 1 => if f (wSt f m).1 < f ((m : Int) + 1) then ((m : Int) + 1, 1) else if f ((m : Int) + 1) = f (wSt f m).1 then ((wSt f m).1, 0) else wSt f m
def sWin (f : Int → Int) : Int := if (wSt f 4).2 = 1 then (wSt f 4).1 else 0
theorem wSt_ok (f : Int → Int) : ∀ m : Nat, 0 ≤ (wSt f m).1 ∧ (wSt f m).1 ≤ m ∧ ((wSt f m).2 = 0 ∨ (wSt f m).2 = 1) := by
  intro m
  induction m with
  | zero => exact ⟨by simp [wSt], by simp [wSt], by simp [wSt]⟩
  | succ m ih =>
    unfold wSt
    split
    · dsimp only; omega
    · split
      · dsimp only; omega
      · omega
theorem sWin_in (f : Int → Int) : 0 ≤ sWin f ∧ sWin f ≤ 4 := by
  have h := wSt_ok f 4
  unfold sWin
  split <;> omega
theorem wSt_congr {f g : Int → Int} (h : ∀ j : Int, 0 ≤ j → j ≤ 4 → f j = g j) : ∀ m : Nat, m ≤ 4 → wSt f m = wSt g m := by
  intro m
  induction m with
  | zero => intro _; rfl
  | succ m ih =>
    intro hm
    have h1 := wSt_ok g m
    unfold wSt
    rw [ih (by omega), h _ h1.1 (by omega), h ((m : Int) + 1) (by omega) (by omega)]
theorem sWin_congr {f g : Int → Int} (h : ∀ j : Int, 0 ≤ j → j ≤ 4 → f j = g j) : sWin f = sWin g := by
  unfold sWin
  rw [wSt_congr h 4 (Nat.le_refl 4)]
set_option maxRecDepth 20000 in
set_option maxHeartbeats 4000000 in
theorem l_Land_worth {w : Hp} {d : Nat} {cell : Int} (hp : LnOK w) (hT : Stc w) (hx : Cel (w 3 0) (w 3 1) cell) : ∀ (k : Nat) (i s : Int), 0 ≤ i → i + k = w 3 2 → s = sumI (fWorth (w 3 0) (w 4) (w 5) (w 6) cell) i → WP SH (d + 2) 40 4 [some (vR 3), some (vI cell), some (vI s), some (vI i)] [] w (fun v w' => v = some (vI (sumI (fWorth (w 3 0) (w 4) (w 5) (w 6) cell) (w 3 2))) ∧ w' = w) := by
  intro k
  induction k with
  | zero =>
    intro i s hi0 hik hs
    obtain ⟨hc, hn, hall⟩ := id hp
    have hpb : ∀ j : Int, 0 ≤ j → j < w 3 2 → 0 ≤ (fWorth (w 3 0) (w 4) (w 5) (w 6) cell) j ∧ (fWorth (w 3 0) (w 4) (w 5) (w 6) cell) j ≤ 162 := fun j a b => by
      have h1 := hall j a b
      have h2 := sG_in (k := w 4 j) hc h1.2.1 hx
      exact mul_bd (by omega) h1.2.2.2 h2.1 h2.2
    have hbd := sumI_bd (lo := 0) (hi := 162) (n := i) hi0 (fun j a b => hpb j a (by omega))
    refine wp_iload_n (pc' := 5) rfl rfl rfl ?_
    refine wp_aload_n (pc' := 6) rfl rfl rfl (by decide) ?_
    refine wp_getI (ci := 3) (k0 := 2) (pc' := 9) rfl rfl (by decide) (by first | assumption | rfl) ?_
    refine wp_icmp_ge (pc' := 12) (pt := 34) rfl rfl rfl (fun q_1 => ?_) (fun q_1 => ?_)
    · skip
      refine wp_iload_n (pc' := 35) rfl rfl rfl ?_
      refine wp_ret rfl rfl rfl ?_
      refine ⟨?_, rfl⟩
      rw [hs, show i = w 3 2 by omega]
    · skip
      exfalso; omega
  | succ k ih =>
    intro i s hi0 hik hs
    obtain ⟨hc, hn, hall⟩ := id hp
    have hpb : ∀ j : Int, 0 ≤ j → j < w 3 2 → 0 ≤ (fWorth (w 3 0) (w 4) (w 5) (w 6) cell) j ∧ (fWorth (w 3 0) (w 4) (w 5) (w 6) cell) j ≤ 162 := fun j a b => by
      have h1 := hall j a b
      have h2 := sG_in (k := w 4 j) hc h1.2.1 hx
      exact mul_bd (by omega) h1.2.2.2 h2.1 h2.2
    have hbd := sumI_bd (lo := 0) (hi := 162) (n := i) hi0 (fun j a b => hpb j a (by omega))
    refine wp_iload_n (pc' := 5) rfl rfl rfl ?_
    refine wp_aload_n (pc' := 6) rfl rfl rfl (by decide) ?_
    refine wp_getI (ci := 3) (k0 := 2) (pc' := 9) rfl rfl (by decide) (by first | assumption | rfl) ?_
    refine wp_icmp_ge (pc' := 12) (pt := 34) rfl rfl rfl (fun q_1 => ?_) (fun q_1 => ?_)
    · skip
      exfalso; omega
    · skip
      have hli : i < w 3 2 := by omega
      have hai := hall i hi0 hli
      have hpi := hpb i hi0 hli
      unfold fWorth at hpi
      try dsimp only at hpi
      refine wp_iload_n (pc' := 13) rfl rfl rfl ?_
      refine wp_aload_n (pc' := 14) rfl rfl rfl (by decide) ?_
      refine wp_getR (r' := 6) (ci := 3) (k0 := 9) (pc' := 17) rfl rfl (by decide) (by first | assumption | rfl) (hT.get 25 rfl) ?_
      refine wp_iload_n (pc' := 18) rfl rfl rfl ?_
      refine wp_iaload (pc' := 19) rfl rfl (by first | assumption | rfl) (by omega) ?_
      refine wp_aload_n (pc' := 20) rfl rfl rfl (by decide) ?_
      refine wp_iload_n (pc' := 21) rfl rfl rfl ?_
      refine wp_iload_n (pc' := 22) rfl rfl rfl ?_
      refine wp_call (pc' := 25) rfl rfl rfl rfl rfl ⟨Nat.le_of_ble_eq_true rfl, Nat.le_of_ble_eq_true rfl, Nat.le_of_ble_eq_true rfl, Nat.le_of_ble_eq_true rfl, Nat.le_of_ble_eq_true rfl⟩ rfl (c_Land_gains hc (by omega) hT hx hai.2.1) ?_
      intro v1 w1 hq1
      rw [hq1.1, hq1.2]
      clear hq1 v1 w1
      dsimp only [Option.toList, List.cons_append, List.nil_append, List.append_nil]
      refine wp_imul (pc' := 26) rfl rfl (by first | exact w32_id (by omega) (by omega) | rfl) ?_
      refine wp_iadd (pc' := 27) rfl rfl (by first | exact w32_id (by omega) (by omega) | rfl) ?_
      refine wp_istore_n (pc' := 28) rfl rfl (Nat.le_of_ble_eq_true rfl) rfl ?_
      dsimp only [lset, lset2, List.set, List.getElem?_cons_zero, List.getElem?_cons_succ]
      refine wp_iinc (pc' := 31) rfl rfl rfl (inc_id (by omega) (by omega)) rfl ?_
      dsimp only [lset, lset2, List.set, List.getElem?_cons_zero, List.getElem?_cons_succ]
      refine wp_goto (pc' := 4) rfl rfl ?_
      exact ih _ _ (by omega) (by omega) (by rw [sumI_s _ hi0, hs]; rfl)
set_option maxRecDepth 20000 in
set_option maxHeartbeats 4000000 in
theorem c_Land_worth {w : Hp} {d : Nat} {cell : Int} (hp : LnOK w) (hT : Stc w) (hx : Cel (w 3 0) (w 3 1) cell) : WP SH (d + 2) 40 0 [some (vR 3), some (vI cell), none, none] [] w (fun v w' => v = some (vI (sumI (fWorth (w 3 0) (w 4) (w 5) (w 6) cell) (w 3 2))) ∧ w' = w) := by
  refine wp_iconst (a := 0) (pc' := 1) rfl rfl rfl ?_
  refine wp_istore_n (pc' := 2) rfl rfl (Nat.le_of_ble_eq_true rfl) rfl ?_
  dsimp only [lset, lset2, List.set, List.getElem?_cons_zero, List.getElem?_cons_succ]
  refine wp_iconst (a := 0) (pc' := 3) rfl rfl rfl ?_
  refine wp_istore_n (pc' := 4) rfl rfl (Nat.le_of_ble_eq_true rfl) rfl ?_
  dsimp only [lset, lset2, List.set, List.getElem?_cons_zero, List.getElem?_cons_succ]
  exact l_Land_worth hp hT hx (w 3 2).toNat 0 0 (by omega) (by have := hp.2.1; omega) rfl
set_option maxRecDepth 20000 in
set_option maxHeartbeats 4000000 in
theorem l_Mod_all {w : Hp} {d : Nat} {cell : Int} (hp : MdOK w) (hT : Stc w) (hx : Cel (w 100 11) (w 100 12) cell) : ∀ (k : Nat) (i s : Int), 0 ≤ i → i + k = w 100 10 → s = sumI (fWorth (w 100 11) (w 107) (fun i => w 109 (3 + i)) (w 108) cell) i → WP SH (d + 4) 175 4 [some (vR 100), some (vI cell), some (vI s), some (vI i)] [] w (fun v w' => v = some (vI (sumI (fWorth (w 100 11) (w 107) (fun i => w 109 (3 + i)) (w 108) cell) (w 100 10))) ∧ w' = w) := by
  intro k
  induction k with
  | zero =>
    intro i s hi0 hik hs
    obtain ⟨hc, hn, hall⟩ := id hp
    have hpb : ∀ j : Int, 0 ≤ j → j < w 100 10 → 0 ≤ (fWorth (w 100 11) (w 107) (fun i => w 109 (3 + i)) (w 108) cell) j ∧ (fWorth (w 100 11) (w 107) (fun i => w 109 (3 + i)) (w 108) cell) j ≤ 162 := fun j a b => by
      have h1 := hall j a b
      have h2 := sG_in (k := w 107 j) hc h1.2.1 hx
      exact mul_bd (by omega) h1.2.2.2 h2.1 h2.2
    have hbd := sumI_bd (lo := 0) (hi := 162) (n := i) hi0 (fun j a b => hpb j a (by omega))
    refine wp_iload_n (pc' := 5) rfl rfl rfl ?_
    refine wp_aload_n (pc' := 6) rfl rfl rfl (by decide) ?_
    refine wp_getI (ci := 10) (k0 := 10) (pc' := 9) rfl rfl (by decide) (by first | assumption | rfl) ?_
    refine wp_icmp_ge (pc' := 12) (pt := 34) rfl rfl rfl (fun q_1 => ?_) (fun q_1 => ?_)
    · skip
      refine wp_iload_n (pc' := 35) rfl rfl rfl ?_
      refine wp_ret rfl rfl rfl ?_
      refine ⟨?_, rfl⟩
      rw [hs, show i = w 100 10 by omega]
    · skip
      exfalso; omega
  | succ k ih =>
    intro i s hi0 hik hs
    obtain ⟨hc, hn, hall⟩ := id hp
    have hpb : ∀ j : Int, 0 ≤ j → j < w 100 10 → 0 ≤ (fWorth (w 100 11) (w 107) (fun i => w 109 (3 + i)) (w 108) cell) j ∧ (fWorth (w 100 11) (w 107) (fun i => w 109 (3 + i)) (w 108) cell) j ≤ 162 := fun j a b => by
      have h1 := hall j a b
      have h2 := sG_in (k := w 107 j) hc h1.2.1 hx
      exact mul_bd (by omega) h1.2.2.2 h2.1 h2.2
    have hbd := sumI_bd (lo := 0) (hi := 162) (n := i) hi0 (fun j a b => hpb j a (by omega))
    refine wp_iload_n (pc' := 5) rfl rfl rfl ?_
    refine wp_aload_n (pc' := 6) rfl rfl rfl (by decide) ?_
    refine wp_getI (ci := 10) (k0 := 10) (pc' := 9) rfl rfl (by decide) (by first | assumption | rfl) ?_
    refine wp_icmp_ge (pc' := 12) (pt := 34) rfl rfl rfl (fun q_1 => ?_) (fun q_1 => ?_)
    · skip
      exfalso; omega
    · skip
      have hli : i < w 100 10 := by omega
      have hai := hall i hi0 hli
      have hpi := hpb i hi0 hli
      unfold fWorth at hpi
      try dsimp only at hpi
      refine wp_iload_n (pc' := 13) rfl rfl rfl ?_
      refine wp_aload_n (pc' := 14) rfl rfl rfl (by decide) ?_
      refine wp_getR (r' := 108) (ci := 10) (k0 := 14) (pc' := 17) rfl rfl (by decide) (by first | assumption | rfl) (hT.get 106 rfl) ?_
      refine wp_iload_n (pc' := 18) rfl rfl rfl ?_
      refine wp_iaload (pc' := 19) rfl rfl (by first | assumption | rfl) (by omega) ?_
      refine wp_aload_n (pc' := 20) rfl rfl rfl (by decide) ?_
      refine wp_iload_n (pc' := 21) rfl rfl rfl ?_
      refine wp_iload_n (pc' := 22) rfl rfl rfl ?_
      refine wp_call (pc' := 25) rfl rfl rfl rfl rfl ⟨Nat.le_of_ble_eq_true rfl, Nat.le_of_ble_eq_true rfl, Nat.le_of_ble_eq_true rfl, Nat.le_of_ble_eq_true rfl, Nat.le_of_ble_eq_true rfl⟩ rfl (c_Mod_gainOn hc (by omega) hT hx hai.2.1) ?_
      intro v1 w1 hq1
      rw [hq1.1, hq1.2]
      clear hq1 v1 w1
      dsimp only [Option.toList, List.cons_append, List.nil_append, List.append_nil]
      refine wp_imul (pc' := 26) rfl rfl (by first | exact w32_id (by omega) (by omega) | rfl) ?_
      refine wp_iadd (pc' := 27) rfl rfl (by first | exact w32_id (by omega) (by omega) | rfl) ?_
      refine wp_istore_n (pc' := 28) rfl rfl (Nat.le_of_ble_eq_true rfl) rfl ?_
      dsimp only [lset, lset2, List.set, List.getElem?_cons_zero, List.getElem?_cons_succ]
      refine wp_iinc (pc' := 31) rfl rfl rfl (inc_id (by omega) (by omega)) rfl ?_
      dsimp only [lset, lset2, List.set, List.getElem?_cons_zero, List.getElem?_cons_succ]
      refine wp_goto (pc' := 4) rfl rfl ?_
      exact ih _ _ (by omega) (by omega) (by rw [sumI_s _ hi0, hs]; rfl)
set_option maxRecDepth 20000 in
set_option maxHeartbeats 4000000 in
theorem c_Mod_all {w : Hp} {d : Nat} {cell : Int} (hp : MdOK w) (hT : Stc w) (hx : Cel (w 100 11) (w 100 12) cell) : WP SH (d + 4) 175 0 [some (vR 100), some (vI cell), none, none] [] w (fun v w' => v = some (vI (sumI (fWorth (w 100 11) (w 107) (fun i => w 109 (3 + i)) (w 108) cell) (w 100 10))) ∧ w' = w) := by
  refine wp_iconst (a := 0) (pc' := 1) rfl rfl rfl ?_
  refine wp_istore_n (pc' := 2) rfl rfl (Nat.le_of_ble_eq_true rfl) rfl ?_
  dsimp only [lset, lset2, List.set, List.getElem?_cons_zero, List.getElem?_cons_succ]
  refine wp_iconst (a := 0) (pc' := 3) rfl rfl rfl ?_
  refine wp_istore_n (pc' := 4) rfl rfl (Nat.le_of_ble_eq_true rfl) rfl ?_
  dsimp only [lset, lset2, List.set, List.getElem?_cons_zero, List.getElem?_cons_succ]
  exact l_Mod_all hp hT hx (w 100 10).toNat 0 0 (by omega) (by have := hp.2.1; omega) rfl
set_option maxRecDepth 20000 in
set_option maxHeartbeats 4000000 in
theorem c_Mod_has {w : Hp} {d : Nat} {s i : Int} : WP SH (d + 0) 138 0 [some (vI s), some (vI i)] [] w (fun v w' => w' = w ∧ ((v = some (vI 1) ∧ (bit s i = 1)) ∨ (v = some (vI 0) ∧ ¬ (bit s i = 1)))) := by
  refine wp_iload_n (pc' := 1) rfl rfl rfl ?_
  refine wp_iload_n (pc' := 2) rfl rfl rfl ?_
  refine wp_ishr (pc' := 3) rfl rfl rfl ?_
  refine wp_iconst (a := 1) (pc' := 4) rfl rfl rfl ?_
  refine wp_iand (pc' := 5) rfl rfl rfl ?_
  refine wp_iconst (a := 1) (pc' := 6) rfl rfl rfl ?_
  refine wp_icmp_ne (pc' := 9) (pt := 13) rfl rfl rfl (fun q_1 => ?_) (fun q_1 => ?_)
  · skip
    refine wp_iconst (a := 0) (pc' := 14) rfl rfl rfl ?_
    refine wp_ret rfl rfl rfl ?_
    first | exact ⟨rfl, Or.inl ⟨rfl, by unfold bit; omega⟩⟩ | exact ⟨rfl, Or.inr ⟨rfl, by unfold bit; omega⟩⟩
  · skip
    refine wp_iconst (a := 1) (pc' := 10) rfl rfl rfl ?_
    refine wp_goto (pc' := 14) rfl rfl ?_
    refine wp_ret rfl rfl rfl ?_
    first | exact ⟨rfl, Or.inl ⟨rfl, by unfold bit; omega⟩⟩ | exact ⟨rfl, Or.inr ⟨rfl, by unfold bit; omega⟩⟩
set_option maxRecDepth 20000 in
set_option maxHeartbeats 4000000 in
theorem l_winner {w : Hp} {d : Nat} (hT : Stc w) : ∀ (k m : Nat) (b al way : Int), m + k = 4 → (b, al) = wSt (w 25) m → way = (m : Int) + 1 → WP SH d 5 6 [some (vR 23), some (vI b), some (vI al), some (vI way)] [] w (fun v w' => v = some (vI (sWin (w 25))) ∧ w' = w) := by
  intro k
  induction k with
  | zero =>
    intro m b al way hmk hba hway
    have hok := wSt_ok (w 25) m
    rw [← hba] at hok
    dsimp only at hok
    refine wp_iload_n (pc' := 7) rfl rfl rfl ?_
    refine wp_iconst (a := 4) (pc' := 8) rfl rfl rfl ?_
    refine wp_icmp_gt (pc' := 11) (pt := 56) rfl rfl rfl (fun q_1 => ?_) (fun q_1 => ?_)
    · skip
      refine wp_iload_n (pc' := 57) rfl rfl rfl ?_
      refine wp_if_eq (pc' := 60) (pt := 64) rfl rfl rfl (fun q_2 => ?_) (fun q_2 => ?_)
      · skip
        refine wp_iconst (a := 0) (pc' := 65) rfl rfl rfl ?_
        refine wp_ret rfl rfl rfl ?_
        refine ⟨congrArg (fun z => some (vI z)) ?_, rfl⟩
        obtain rfl : m = 4 := by omega
        unfold sWin
        rw [← hba]
        dsimp only
        split <;> omega
      · skip
        refine wp_iload_n (pc' := 61) rfl rfl rfl ?_
        refine wp_goto (pc' := 65) rfl rfl ?_
        refine wp_ret rfl rfl rfl ?_
        refine ⟨congrArg (fun z => some (vI z)) ?_, rfl⟩
        obtain rfl : m = 4 := by omega
        unfold sWin
        rw [← hba]
        dsimp only
        split <;> omega
    · skip
      exfalso; omega
  | succ k ih =>
    intro m b al way hmk hba hway
    have hok := wSt_ok (w 25) m
    rw [← hba] at hok
    dsimp only at hok
    refine wp_iload_n (pc' := 7) rfl rfl rfl ?_
    refine wp_iconst (a := 4) (pc' := 8) rfl rfl rfl ?_
    refine wp_icmp_gt (pc' := 11) (pt := 56) rfl rfl rfl (fun q_1 => ?_) (fun q_1 => ?_)
    · skip
      exfalso; omega
    · skip
      refine wp_aload_n (pc' := 12) rfl rfl rfl (by decide) ?_
      refine wp_getR (r' := 25) (ci := 0) (k0 := 1) (pc' := 15) rfl rfl (by decide) (by first | assumption | rfl) (hT.get 43 rfl) ?_
      refine wp_iload_n (pc' := 16) rfl rfl rfl ?_
      refine wp_iaload (pc' := 17) rfl rfl (by first | assumption | rfl) (by omega) ?_
      refine wp_aload_n (pc' := 18) rfl rfl rfl (by decide) ?_
      refine wp_getR (r' := 25) (ci := 0) (k0 := 1) (pc' := 21) rfl rfl (by decide) (by first | assumption | rfl) (hT.get 43 rfl) ?_
      refine wp_iload_n (pc' := 22) rfl rfl rfl ?_
      refine wp_iaload (pc' := 23) rfl rfl (by first | assumption | rfl) (by omega) ?_
      refine wp_icmp_le (pc' := 26) (pt := 33) rfl rfl rfl (fun q_2 => ?_) (fun q_2 => ?_)
      · skip
        refine wp_aload_n (pc' := 34) rfl rfl rfl (by decide) ?_
        refine wp_getR (r' := 25) (ci := 0) (k0 := 1) (pc' := 37) rfl rfl (by decide) (by first | assumption | rfl) (hT.get 43 rfl) ?_
        refine wp_iload_n (pc' := 38) rfl rfl rfl ?_
        refine wp_iaload (pc' := 39) rfl rfl (by first | assumption | rfl) (by omega) ?_
        refine wp_aload_n (pc' := 40) rfl rfl rfl (by decide) ?_
        refine wp_getR (r' := 25) (ci := 0) (k0 := 1) (pc' := 43) rfl rfl (by decide) (by first | assumption | rfl) (hT.get 43 rfl) ?_
        refine wp_iload_n (pc' := 44) rfl rfl rfl ?_
        refine wp_iaload (pc' := 45) rfl rfl (by first | assumption | rfl) (by omega) ?_
        refine wp_icmp_ne (pc' := 48) (pt := 50) rfl rfl rfl (fun q_3 => ?_) (fun q_3 => ?_)
        · skip
          refine wp_iinc (pc' := 53) rfl rfl rfl (inc_id (by omega) (by omega)) rfl ?_
          dsimp only [lset, lset2, List.set, List.getElem?_cons_zero, List.getElem?_cons_succ]
          refine wp_goto (pc' := 6) rfl rfl ?_
          exact ih (m + 1) _ _ _ (by omega) (by rw [wSt, ← hba]; dsimp only; subst hway; first | rw [if_pos (by omega)] | (rw [if_neg (by omega), if_pos (by omega)]) | (rw [if_neg (by omega), if_neg (by omega)])) (by omega)
        · skip
          refine wp_iconst (a := 0) (pc' := 49) rfl rfl rfl ?_
          refine wp_istore_n (pc' := 50) rfl rfl (Nat.le_of_ble_eq_true rfl) rfl ?_
          dsimp only [lset, lset2, List.set, List.getElem?_cons_zero, List.getElem?_cons_succ]
          refine wp_iinc (pc' := 53) rfl rfl rfl (inc_id (by omega) (by omega)) rfl ?_
          dsimp only [lset, lset2, List.set, List.getElem?_cons_zero, List.getElem?_cons_succ]
          refine wp_goto (pc' := 6) rfl rfl ?_
          exact ih (m + 1) _ _ _ (by omega) (by rw [wSt, ← hba]; dsimp only; subst hway; first | rw [if_pos (by omega)] | (rw [if_neg (by omega), if_pos (by omega)]) | (rw [if_neg (by omega), if_neg (by omega)])) (by omega)
      · skip
        refine wp_iload_n (pc' := 27) rfl rfl rfl ?_
        refine wp_istore_n (pc' := 28) rfl rfl (Nat.le_of_ble_eq_true rfl) rfl ?_
        dsimp only [lset, lset2, List.set, List.getElem?_cons_zero, List.getElem?_cons_succ]
        refine wp_iconst (a := 1) (pc' := 29) rfl rfl rfl ?_
        refine wp_istore_n (pc' := 30) rfl rfl (Nat.le_of_ble_eq_true rfl) rfl ?_
        dsimp only [lset, lset2, List.set, List.getElem?_cons_zero, List.getElem?_cons_succ]
        refine wp_goto (pc' := 50) rfl rfl ?_
        refine wp_iinc (pc' := 53) rfl rfl rfl (inc_id (by omega) (by omega)) rfl ?_
        dsimp only [lset, lset2, List.set, List.getElem?_cons_zero, List.getElem?_cons_succ]
        refine wp_goto (pc' := 6) rfl rfl ?_
        exact ih (m + 1) _ _ _ (by omega) (by rw [wSt, ← hba]; dsimp only; subst hway; first | rw [if_pos (by omega)] | (rw [if_neg (by omega), if_pos (by omega)]) | (rw [if_neg (by omega), if_neg (by omega)])) (by omega)
set_option maxRecDepth 20000 in
set_option maxHeartbeats 4000000 in
theorem c_Ballot_winner {w : Hp} {d : Nat} (hT : Stc w) : WP SH (d + 0) 5 0 [some (vR 23), none, none, none] [] w (fun v w' => v = some (vI (sWin (w 25))) ∧ w' = w) := by
  refine wp_iconst (a := 0) (pc' := 1) rfl rfl rfl ?_
  refine wp_istore_n (pc' := 2) rfl rfl (Nat.le_of_ble_eq_true rfl) rfl ?_
  dsimp only [lset, lset2, List.set, List.getElem?_cons_zero, List.getElem?_cons_succ]
  refine wp_iconst (a := 1) (pc' := 3) rfl rfl rfl ?_
  refine wp_istore_n (pc' := 4) rfl rfl (Nat.le_of_ble_eq_true rfl) rfl ?_
  dsimp only [lset, lset2, List.set, List.getElem?_cons_zero, List.getElem?_cons_succ]
  refine wp_iconst (a := 1) (pc' := 5) rfl rfl rfl ?_
  refine wp_istore_n (pc' := 6) rfl rfl (Nat.le_of_ble_eq_true rfl) rfl ?_
  dsimp only [lset, lset2, List.set, List.getElem?_cons_zero, List.getElem?_cons_succ]
  exact l_winner hT 4 0 _ _ _ rfl rfl rfl
set_option maxRecDepth 20000 in
set_option maxHeartbeats 4000000 in
theorem l_carried {w : Hp} {d : Nat} (hT : Stc w) : ∀ (k m : Nat) (b mn kk : Int), m + k = 4 → b = (wSt (w 113) m).1 → (1 ≤ mn ∧ mn ≤ m + 1 ∧ (mn = 1 ↔ (wSt (w 113) m).2 = 1)) → kk = (m : Int) + 1 → WP SH d 179 6 [some (vR 100), some (vI b), some (vI mn), some (vI kk)] [] w (fun v w' => v = some (vI (sWin (w 113))) ∧ w' = w) := by
  intro k
  induction k with
  | zero =>
    intro m b mn kk hmk hb hmn hkk
    have hok := wSt_ok (w 113) m
    rw [← hb] at hok
    refine wp_iload_n (pc' := 7) rfl rfl rfl ?_
    refine wp_iconst (a := 4) (pc' := 8) rfl rfl rfl ?_
    refine wp_icmp_gt (pc' := 11) (pt := 80) rfl rfl rfl (fun q_1 => ?_) (fun q_1 => ?_)
    · skip
      refine wp_iload_n (pc' := 81) rfl rfl rfl ?_
      refine wp_iconst (a := 1) (pc' := 82) rfl rfl rfl ?_
      refine wp_icmp_le (pc' := 85) (pt := 89) rfl rfl rfl (fun q_2 => ?_) (fun q_2 => ?_)
      · skip
        refine wp_iload_n (pc' := 90) rfl rfl rfl ?_
        refine wp_ret rfl rfl rfl ?_
        refine ⟨congrArg (fun z => some (vI z)) ?_, rfl⟩
        obtain rfl : m = 4 := by omega
        unfold sWin
        rw [← hb]
        split <;> omega
      · skip
        refine wp_iconst (a := 0) (pc' := 86) rfl rfl rfl ?_
        refine wp_goto (pc' := 90) rfl rfl ?_
        refine wp_ret rfl rfl rfl ?_
        refine ⟨congrArg (fun z => some (vI z)) ?_, rfl⟩
        obtain rfl : m = 4 := by omega
        unfold sWin
        rw [← hb]
        split <;> omega
    · skip
      exfalso; omega
  | succ k ih =>
    intro m b mn kk hmk hb hmn hkk
    have hok := wSt_ok (w 113) m
    rw [← hb] at hok
    refine wp_iload_n (pc' := 7) rfl rfl rfl ?_
    refine wp_iconst (a := 4) (pc' := 8) rfl rfl rfl ?_
    refine wp_icmp_gt (pc' := 11) (pt := 80) rfl rfl rfl (fun q_1 => ?_) (fun q_1 => ?_)
    · skip
      exfalso; omega
    · skip
      refine wp_aload_n (pc' := 12) rfl rfl rfl (by decide) ?_
      refine wp_getR (r' := 113) (ci := 10) (k0 := 22) (pc' := 15) rfl rfl (by decide) (by first | assumption | rfl) (hT.get 111 rfl) ?_
      refine wp_iload_n (pc' := 16) rfl rfl rfl ?_
      refine wp_iaload (pc' := 17) rfl rfl (by first | assumption | rfl) (by omega) ?_
      refine wp_aload_n (pc' := 18) rfl rfl rfl (by decide) ?_
      refine wp_getR (r' := 113) (ci := 10) (k0 := 22) (pc' := 21) rfl rfl (by decide) (by first | assumption | rfl) (hT.get 111 rfl) ?_
      refine wp_iload_n (pc' := 22) rfl rfl rfl ?_
      refine wp_iaload (pc' := 23) rfl rfl (by first | assumption | rfl) (by omega) ?_
      refine wp_icmp_le (pc' := 26) (pt := 30) rfl rfl rfl (fun q_2 => ?_) (fun q_2 => ?_)
      · skip
        refine wp_aload_n (pc' := 31) rfl rfl rfl (by decide) ?_
        refine wp_getR (r' := 113) (ci := 10) (k0 := 22) (pc' := 34) rfl rfl (by decide) (by first | assumption | rfl) (hT.get 111 rfl) ?_
        refine wp_iload_n (pc' := 35) rfl rfl rfl ?_
        refine wp_iaload (pc' := 36) rfl rfl (by first | assumption | rfl) (by omega) ?_
        refine wp_aload_n (pc' := 37) rfl rfl rfl (by decide) ?_
        refine wp_getR (r' := 113) (ci := 10) (k0 := 22) (pc' := 40) rfl rfl (by decide) (by first | assumption | rfl) (hT.get 111 rfl) ?_
        refine wp_iload_n (pc' := 41) rfl rfl rfl ?_
        refine wp_iaload (pc' := 42) rfl rfl (by first | assumption | rfl) (by omega) ?_
        refine wp_icmp_ne (pc' := 45) (pt := 51) rfl rfl rfl (fun q_3 => ?_) (fun q_3 => ?_)
        · skip
          refine wp_iload_n (pc' := 52) rfl rfl rfl ?_
          refine wp_istore_n (pc' := 53) rfl rfl (Nat.le_of_ble_eq_true rfl) rfl ?_
          dsimp only [lset, lset2, List.set, List.getElem?_cons_zero, List.getElem?_cons_succ]
          refine wp_aload_n (pc' := 54) rfl rfl rfl (by decide) ?_
          refine wp_getR (r' := 113) (ci := 10) (k0 := 22) (pc' := 57) rfl rfl (by decide) (by first | assumption | rfl) (hT.get 111 rfl) ?_
          refine wp_iload_n (pc' := 58) rfl rfl rfl ?_
          refine wp_iaload (pc' := 59) rfl rfl (by first | assumption | rfl) (by omega) ?_
          refine wp_aload_n (pc' := 60) rfl rfl rfl (by decide) ?_
          refine wp_getR (r' := 113) (ci := 10) (k0 := 22) (pc' := 63) rfl rfl (by decide) (by first | assumption | rfl) (hT.get 111 rfl) ?_
          refine wp_iload_n (pc' := 64) rfl rfl rfl ?_
          refine wp_iaload (pc' := 65) rfl rfl (by first | assumption | rfl) (by omega) ?_
          refine wp_icmp_le (pc' := 68) (pt := 72) rfl rfl rfl (fun q_4 => ?_) (fun q_4 => ?_)
          · skip
            refine wp_iload_n (pc' := 73) rfl rfl rfl ?_
            refine wp_istore_n (pc' := 74) rfl rfl (Nat.le_of_ble_eq_true rfl) rfl ?_
            dsimp only [lset, lset2, List.set, List.getElem?_cons_zero, List.getElem?_cons_succ]
            refine wp_iinc (pc' := 77) rfl rfl rfl (inc_id (by omega) (by omega)) rfl ?_
            dsimp only [lset, lset2, List.set, List.getElem?_cons_zero, List.getElem?_cons_succ]
            refine wp_goto (pc' := 6) rfl rfl ?_
            exact ih (m + 1) _ _ _ (by omega) (by rw [wSt, ← hb]; subst hkk; first | (rw [if_pos (by omega)]; done) | (rw [if_neg (by omega), if_pos (by omega)]; done) | (rw [if_neg (by omega), if_neg (by omega)]; exact hb)) (by rw [wSt, ← hb]; subst hkk; first | (rw [if_pos (by omega)]; dsimp only; omega) | (rw [if_neg (by omega), if_pos (by omega)]; dsimp only; omega) | (rw [if_neg (by omega), if_neg (by omega)]; omega)) (by omega)
          · skip
            refine wp_iload_n (pc' := 69) rfl rfl rfl ?_
            refine wp_goto (pc' := 73) rfl rfl ?_
            refine wp_istore_n (pc' := 74) rfl rfl (Nat.le_of_ble_eq_true rfl) rfl ?_
            dsimp only [lset, lset2, List.set, List.getElem?_cons_zero, List.getElem?_cons_succ]
            refine wp_iinc (pc' := 77) rfl rfl rfl (inc_id (by omega) (by omega)) rfl ?_
            dsimp only [lset, lset2, List.set, List.getElem?_cons_zero, List.getElem?_cons_succ]
            refine wp_goto (pc' := 6) rfl rfl ?_
            exact ih (m + 1) _ _ _ (by omega) (by rw [wSt, ← hb]; subst hkk; first | (rw [if_pos (by omega)]; done) | (rw [if_neg (by omega), if_pos (by omega)]; done) | (rw [if_neg (by omega), if_neg (by omega)]; exact hb)) (by rw [wSt, ← hb]; subst hkk; first | (rw [if_pos (by omega)]; dsimp only; omega) | (rw [if_neg (by omega), if_pos (by omega)]; dsimp only; omega) | (rw [if_neg (by omega), if_neg (by omega)]; omega)) (by omega)
        · skip
          refine wp_iload_n (pc' := 46) rfl rfl rfl ?_
          refine wp_iconst (a := 1) (pc' := 47) rfl rfl rfl ?_
          refine wp_iadd (pc' := 48) rfl rfl (by first | exact w32_id (by omega) (by omega) | rfl) ?_
          refine wp_goto (pc' := 52) rfl rfl ?_
          refine wp_istore_n (pc' := 53) rfl rfl (Nat.le_of_ble_eq_true rfl) rfl ?_
          dsimp only [lset, lset2, List.set, List.getElem?_cons_zero, List.getElem?_cons_succ]
          refine wp_aload_n (pc' := 54) rfl rfl rfl (by decide) ?_
          refine wp_getR (r' := 113) (ci := 10) (k0 := 22) (pc' := 57) rfl rfl (by decide) (by first | assumption | rfl) (hT.get 111 rfl) ?_
          refine wp_iload_n (pc' := 58) rfl rfl rfl ?_
          refine wp_iaload (pc' := 59) rfl rfl (by first | assumption | rfl) (by omega) ?_
          refine wp_aload_n (pc' := 60) rfl rfl rfl (by decide) ?_
          refine wp_getR (r' := 113) (ci := 10) (k0 := 22) (pc' := 63) rfl rfl (by decide) (by first | assumption | rfl) (hT.get 111 rfl) ?_
          refine wp_iload_n (pc' := 64) rfl rfl rfl ?_
          refine wp_iaload (pc' := 65) rfl rfl (by first | assumption | rfl) (by omega) ?_
          refine wp_icmp_le (pc' := 68) (pt := 72) rfl rfl rfl (fun q_5 => ?_) (fun q_5 => ?_)
          · skip
            refine wp_iload_n (pc' := 73) rfl rfl rfl ?_
            refine wp_istore_n (pc' := 74) rfl rfl (Nat.le_of_ble_eq_true rfl) rfl ?_
            dsimp only [lset, lset2, List.set, List.getElem?_cons_zero, List.getElem?_cons_succ]
            refine wp_iinc (pc' := 77) rfl rfl rfl (inc_id (by omega) (by omega)) rfl ?_
            dsimp only [lset, lset2, List.set, List.getElem?_cons_zero, List.getElem?_cons_succ]
            refine wp_goto (pc' := 6) rfl rfl ?_
            exact ih (m + 1) _ _ _ (by omega) (by rw [wSt, ← hb]; subst hkk; first | (rw [if_pos (by omega)]; done) | (rw [if_neg (by omega), if_pos (by omega)]; done) | (rw [if_neg (by omega), if_neg (by omega)]; exact hb)) (by rw [wSt, ← hb]; subst hkk; first | (rw [if_pos (by omega)]; dsimp only; omega) | (rw [if_neg (by omega), if_pos (by omega)]; dsimp only; omega) | (rw [if_neg (by omega), if_neg (by omega)]; omega)) (by omega)
          · skip
            refine wp_iload_n (pc' := 69) rfl rfl rfl ?_
            refine wp_goto (pc' := 73) rfl rfl ?_
            refine wp_istore_n (pc' := 74) rfl rfl (Nat.le_of_ble_eq_true rfl) rfl ?_
            dsimp only [lset, lset2, List.set, List.getElem?_cons_zero, List.getElem?_cons_succ]
            refine wp_iinc (pc' := 77) rfl rfl rfl (inc_id (by omega) (by omega)) rfl ?_
            dsimp only [lset, lset2, List.set, List.getElem?_cons_zero, List.getElem?_cons_succ]
            refine wp_goto (pc' := 6) rfl rfl ?_
            exact ih (m + 1) _ _ _ (by omega) (by rw [wSt, ← hb]; subst hkk; first | (rw [if_pos (by omega)]; done) | (rw [if_neg (by omega), if_pos (by omega)]; done) | (rw [if_neg (by omega), if_neg (by omega)]; exact hb)) (by rw [wSt, ← hb]; subst hkk; first | (rw [if_pos (by omega)]; dsimp only; omega) | (rw [if_neg (by omega), if_pos (by omega)]; dsimp only; omega) | (rw [if_neg (by omega), if_neg (by omega)]; omega)) (by omega)
      · skip
        refine wp_iconst (a := 1) (pc' := 27) rfl rfl rfl ?_
        refine wp_goto (pc' := 52) rfl rfl ?_
        refine wp_istore_n (pc' := 53) rfl rfl (Nat.le_of_ble_eq_true rfl) rfl ?_
        dsimp only [lset, lset2, List.set, List.getElem?_cons_zero, List.getElem?_cons_succ]
        refine wp_aload_n (pc' := 54) rfl rfl rfl (by decide) ?_
        refine wp_getR (r' := 113) (ci := 10) (k0 := 22) (pc' := 57) rfl rfl (by decide) (by first | assumption | rfl) (hT.get 111 rfl) ?_
        refine wp_iload_n (pc' := 58) rfl rfl rfl ?_
        refine wp_iaload (pc' := 59) rfl rfl (by first | assumption | rfl) (by omega) ?_
        refine wp_aload_n (pc' := 60) rfl rfl rfl (by decide) ?_
        refine wp_getR (r' := 113) (ci := 10) (k0 := 22) (pc' := 63) rfl rfl (by decide) (by first | assumption | rfl) (hT.get 111 rfl) ?_
        refine wp_iload_n (pc' := 64) rfl rfl rfl ?_
        refine wp_iaload (pc' := 65) rfl rfl (by first | assumption | rfl) (by omega) ?_
        refine wp_icmp_le (pc' := 68) (pt := 72) rfl rfl rfl (fun q_6 => ?_) (fun q_6 => ?_)
        · skip
          refine wp_iload_n (pc' := 73) rfl rfl rfl ?_
          refine wp_istore_n (pc' := 74) rfl rfl (Nat.le_of_ble_eq_true rfl) rfl ?_
          dsimp only [lset, lset2, List.set, List.getElem?_cons_zero, List.getElem?_cons_succ]
          refine wp_iinc (pc' := 77) rfl rfl rfl (inc_id (by omega) (by omega)) rfl ?_
          dsimp only [lset, lset2, List.set, List.getElem?_cons_zero, List.getElem?_cons_succ]
          refine wp_goto (pc' := 6) rfl rfl ?_
          exact ih (m + 1) _ _ _ (by omega) (by rw [wSt, ← hb]; subst hkk; first | (rw [if_pos (by omega)]; done) | (rw [if_neg (by omega), if_pos (by omega)]; done) | (rw [if_neg (by omega), if_neg (by omega)]; exact hb)) (by rw [wSt, ← hb]; subst hkk; first | (rw [if_pos (by omega)]; dsimp only; omega) | (rw [if_neg (by omega), if_pos (by omega)]; dsimp only; omega) | (rw [if_neg (by omega), if_neg (by omega)]; omega)) (by omega)
        · skip
          refine wp_iload_n (pc' := 69) rfl rfl rfl ?_
          refine wp_goto (pc' := 73) rfl rfl ?_
          refine wp_istore_n (pc' := 74) rfl rfl (Nat.le_of_ble_eq_true rfl) rfl ?_
          dsimp only [lset, lset2, List.set, List.getElem?_cons_zero, List.getElem?_cons_succ]
          refine wp_iinc (pc' := 77) rfl rfl rfl (inc_id (by omega) (by omega)) rfl ?_
          dsimp only [lset, lset2, List.set, List.getElem?_cons_zero, List.getElem?_cons_succ]
          refine wp_goto (pc' := 6) rfl rfl ?_
          exact ih (m + 1) _ _ _ (by omega) (by rw [wSt, ← hb]; subst hkk; first | (rw [if_pos (by omega)]; done) | (rw [if_neg (by omega), if_pos (by omega)]; done) | (rw [if_neg (by omega), if_neg (by omega)]; exact hb)) (by rw [wSt, ← hb]; subst hkk; first | (rw [if_pos (by omega)]; dsimp only; omega) | (rw [if_neg (by omega), if_pos (by omega)]; dsimp only; omega) | (rw [if_neg (by omega), if_neg (by omega)]; omega)) (by omega)
set_option maxRecDepth 20000 in
set_option maxHeartbeats 4000000 in
theorem l_carried0 {w : Hp} {d : Nat} (hT : Stc w) : WP SH d 179 6 [some (vR 100), some (vI 0), some (vI 0), some (vI 0)] [] w (fun v w' => v = some (vI (sWin (w 113))) ∧ w' = w) := by
  refine wp_iload_n (pc' := 7) rfl rfl rfl ?_
  refine wp_iconst (a := 4) (pc' := 8) rfl rfl rfl ?_
  refine wp_icmp_gt (pc' := 11) (pt := 80) rfl rfl rfl (fun q_1 => ?_) (fun q_1 => ?_)
  · skip
    exfalso; omega
  · skip
    refine wp_aload_n (pc' := 12) rfl rfl rfl (by decide) ?_
    refine wp_getR (r' := 113) (ci := 10) (k0 := 22) (pc' := 15) rfl rfl (by decide) (by first | assumption | rfl) (hT.get 111 rfl) ?_
    refine wp_iload_n (pc' := 16) rfl rfl rfl ?_
    refine wp_iaload (pc' := 17) rfl rfl (by first | assumption | rfl) (by omega) ?_
    refine wp_aload_n (pc' := 18) rfl rfl rfl (by decide) ?_
    refine wp_getR (r' := 113) (ci := 10) (k0 := 22) (pc' := 21) rfl rfl (by decide) (by first | assumption | rfl) (hT.get 111 rfl) ?_
    refine wp_iload_n (pc' := 22) rfl rfl rfl ?_
    refine wp_iaload (pc' := 23) rfl rfl (by first | assumption | rfl) (by omega) ?_
    refine wp_icmp_le (pc' := 26) (pt := 30) rfl rfl rfl (fun q_2 => ?_) (fun q_2 => ?_)
    · skip
      refine wp_aload_n (pc' := 31) rfl rfl rfl (by decide) ?_
      refine wp_getR (r' := 113) (ci := 10) (k0 := 22) (pc' := 34) rfl rfl (by decide) (by first | assumption | rfl) (hT.get 111 rfl) ?_
      refine wp_iload_n (pc' := 35) rfl rfl rfl ?_
      refine wp_iaload (pc' := 36) rfl rfl (by first | assumption | rfl) (by omega) ?_
      refine wp_aload_n (pc' := 37) rfl rfl rfl (by decide) ?_
      refine wp_getR (r' := 113) (ci := 10) (k0 := 22) (pc' := 40) rfl rfl (by decide) (by first | assumption | rfl) (hT.get 111 rfl) ?_
      refine wp_iload_n (pc' := 41) rfl rfl rfl ?_
      refine wp_iaload (pc' := 42) rfl rfl (by first | assumption | rfl) (by omega) ?_
      refine wp_icmp_ne (pc' := 45) (pt := 51) rfl rfl rfl (fun q_3 => ?_) (fun q_3 => ?_)
      · skip
        exfalso; omega
      · skip
        refine wp_iload_n (pc' := 46) rfl rfl rfl ?_
        refine wp_iconst (a := 1) (pc' := 47) rfl rfl rfl ?_
        refine wp_iadd (pc' := 48) rfl rfl (by first | exact w32_id (by omega) (by omega) | rfl) ?_
        refine wp_goto (pc' := 52) rfl rfl ?_
        refine wp_istore_n (pc' := 53) rfl rfl (Nat.le_of_ble_eq_true rfl) rfl ?_
        dsimp only [lset, lset2, List.set, List.getElem?_cons_zero, List.getElem?_cons_succ]
        refine wp_aload_n (pc' := 54) rfl rfl rfl (by decide) ?_
        refine wp_getR (r' := 113) (ci := 10) (k0 := 22) (pc' := 57) rfl rfl (by decide) (by first | assumption | rfl) (hT.get 111 rfl) ?_
        refine wp_iload_n (pc' := 58) rfl rfl rfl ?_
        refine wp_iaload (pc' := 59) rfl rfl (by first | assumption | rfl) (by omega) ?_
        refine wp_aload_n (pc' := 60) rfl rfl rfl (by decide) ?_
        refine wp_getR (r' := 113) (ci := 10) (k0 := 22) (pc' := 63) rfl rfl (by decide) (by first | assumption | rfl) (hT.get 111 rfl) ?_
        refine wp_iload_n (pc' := 64) rfl rfl rfl ?_
        refine wp_iaload (pc' := 65) rfl rfl (by first | assumption | rfl) (by omega) ?_
        refine wp_icmp_le (pc' := 68) (pt := 72) rfl rfl rfl (fun q_4 => ?_) (fun q_4 => ?_)
        · skip
          refine wp_iload_n (pc' := 73) rfl rfl rfl ?_
          refine wp_istore_n (pc' := 74) rfl rfl (Nat.le_of_ble_eq_true rfl) rfl ?_
          dsimp only [lset, lset2, List.set, List.getElem?_cons_zero, List.getElem?_cons_succ]
          refine wp_iinc (pc' := 77) rfl rfl rfl (inc_id (by omega) (by omega)) rfl ?_
          dsimp only [lset, lset2, List.set, List.getElem?_cons_zero, List.getElem?_cons_succ]
          refine wp_goto (pc' := 6) rfl rfl ?_
          exact l_carried hT 4 0 _ _ _ rfl rfl ⟨by decide, by decide, by simp [wSt]⟩ rfl
        · skip
          exfalso; omega
    · skip
      exfalso; omega
set_option maxRecDepth 20000 in
set_option maxHeartbeats 4000000 in
theorem c_Mod_carried {w : Hp} {d : Nat} (hT : Stc w) : WP SH (d + 0) 179 0 [some (vR 100), none, none, none] [] w (fun v w' => v = some (vI (sWin (w 113))) ∧ w' = w) := by
  refine wp_iconst (a := 0) (pc' := 1) rfl rfl rfl ?_
  refine wp_istore_n (pc' := 2) rfl rfl (Nat.le_of_ble_eq_true rfl) rfl ?_
  dsimp only [lset, lset2, List.set, List.getElem?_cons_zero, List.getElem?_cons_succ]
  refine wp_iconst (a := 0) (pc' := 3) rfl rfl rfl ?_
  refine wp_istore_n (pc' := 4) rfl rfl (Nat.le_of_ble_eq_true rfl) rfl ?_
  dsimp only [lset, lset2, List.set, List.getElem?_cons_zero, List.getElem?_cons_succ]
  refine wp_iconst (a := 0) (pc' := 5) rfl rfl rfl ?_
  refine wp_istore_n (pc' := 6) rfl rfl (Nat.le_of_ble_eq_true rfl) rfl ?_
  dsimp only [lset, lset2, List.set, List.getElem?_cons_zero, List.getElem?_cons_succ]
  exact l_carried0 hT
