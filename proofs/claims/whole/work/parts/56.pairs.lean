/-! rows of pairs -/
abbrev WellAt (P : Int → Int) (first q : Int) : Prop := 0 ≤ P (2 * q) ∧ P (2 * q) < first ∧ 0 ≤ P (2 * q + 1) ∧ P (2 * q + 1) ≤ 30
def wellN (P : Int → Int) (first : Int) : Nat → Int
  | 0 => 1
  | m + 1 => if wellN P first m = 1 ∧ WellAt P first m then 1 else 0
theorem wellN01 (P : Int → Int) (first : Int) : ∀ m : Nat, wellN P first m = 0 ∨ wellN P first m = 1 := by
  intro m
  cases m with
  | zero => exact Or.inr rfl
  | succ m => unfold wellN; split <;> simp
theorem wellN_zero {P : Int → Int} {first : Int} {m M : Nat} (h : wellN P first m = 0) (hm : m ≤ M) : wellN P first M = 0 := by
  induction M with
  | zero =>
    obtain rfl : m = 0 := by omega
    exact h
  | succ M ih =>
    by_cases he : m = M + 1
    · rw [← he]
      exact h
    · unfold wellN
      rw [if_neg (fun z => by have := ih (by omega); omega)]
theorem wellN_at {P : Int → Int} {first : Int} : ∀ {M : Nat}, wellN P first M = 1 → ∀ q : Int, 0 ≤ q → q < M → WellAt P first q := by
  intro M
  induction M with
  | zero => intro _ q a b; exact absurd b (by omega)
  | succ M ih =>
    intro h q a b
    have h2 : wellN P first M = 1 ∧ WellAt P first M := by
      unfold wellN at h
      split at h
      · assumption
      · exact absurd h (by decide)
    by_cases hq : q = M
    · rw [hq]
      exact h2.2
    · exact ih h2.1 q a (by omega)
theorem wellN_congr {P P' : Int → Int} {first : Int} : ∀ {M : Nat}, (∀ j : Int, 0 ≤ j → j < 2 * M → P j = P' j) → wellN P first M = wellN P' first M := by
  intro M
  induction M with
  | zero => intro _; rfl
  | succ M ih =>
    intro h
    have hw : WellAt P first M ↔ WellAt P' first M := by
      unfold WellAt
      rw [h (2 * (M : Int)) (by omega) (by omega), h (2 * (M : Int) + 1) (by omega) (by omega)]
    unfold wellN
    rw [ih (fun j a b => h j a (by omega))]
    by_cases hz : wellN P' first M = 1 ∧ WellAt P' first M
    · rw [if_pos hz, if_pos ⟨hz.1, hw.2 hz.2⟩]
    · rw [if_neg hz, if_neg (fun z => hz ⟨z.1, hw.1 z.2⟩)]
def mW (w : Hp) (f : Int) : Hp := up (up w 100 0 f) 101 f (w32 (w 101 f + 1))
set_option maxRecDepth 20000 in
set_option maxHeartbeats 4000000 in
theorem l_pairs {w : Hp} {d : Nat} {s p first : Int} (hT : Stc w) (hs : StripAt w s p 40) (hz : 0 ≤ w s 1 ∧ w s 1 ≤ 40) : ∀ (k m : Nat) (i : Int) (x4 x5 : Option PV), i = 2 * (m : Int) → 2 * ((m : Int) + k) = w s 1 → wellN (w p) first m = 1 → WP SH (d + 1) 130 30 [some (vR 0), some (vR s), some (vI first), some (vI i), x4, x5] [] w (fun v w' => (v = some (vI (-3)) ∧ wellN (w p) first (w s 1 / 2).toNat = 0 ∧ w' = refW w 3) ∨ (v = some (vI 0) ∧ wellN (w p) first (w s 1 / 2).toNat = 1 ∧ w' = w)) := by
  intro k
  induction k with
  | zero =>
    intro m i x4 x5 hi hmk hw
    obtain ⟨hs7, hpn, hsp, hs0, hp0, hne, hnn⟩ := id hs
    refine wp_iload_n (pc' := 31) rfl rfl rfl ?_
    refine wp_iconst (a := 1) (pc' := 32) rfl rfl rfl ?_
    refine wp_iadd (pc' := 33) rfl rfl (by first | exact w32_id (by omega) (by omega) | rfl) ?_
    refine wp_aload_n (pc' := 34) rfl rfl rfl (by omega) ?_
    refine wp_getI (ci := 7) (k0 := 1) (pc' := 37) rfl rfl (by decide) (by first | assumption | rfl) ?_
    refine wp_icmp_ge (pc' := 40) (pt := 93) rfl rfl rfl (fun q_1 => ?_) (fun q_1 => ?_)
    · skip
      refine wp_iconst (a := 0) (pc' := 94) rfl rfl rfl ?_
      refine wp_ret rfl rfl rfl ?_
      refine Or.inr ⟨rfl, ?_, rfl⟩
      rw [show (w s 1 / 2).toNat = m by omega]
      exact hw
    · skip
      exfalso; omega
  | succ k ih =>
    intro m i x4 x5 hi hmk hw
    obtain ⟨hs7, hpn, hsp, hs0, hp0, hne, hnn⟩ := id hs
    refine wp_iload_n (pc' := 31) rfl rfl rfl ?_
    refine wp_iconst (a := 1) (pc' := 32) rfl rfl rfl ?_
    refine wp_iadd (pc' := 33) rfl rfl (by first | exact w32_id (by omega) (by omega) | rfl) ?_
    refine wp_aload_n (pc' := 34) rfl rfl rfl (by omega) ?_
    refine wp_getI (ci := 7) (k0 := 1) (pc' := 37) rfl rfl (by decide) (by first | assumption | rfl) ?_
    refine wp_icmp_ge (pc' := 40) (pt := 93) rfl rfl rfl (fun q_1 => ?_) (fun q_1 => ?_)
    · skip
      exfalso; omega
    · skip
      refine wp_aload_n (pc' := 41) rfl rfl rfl (by omega) ?_
      refine wp_getR (r' := p) (ci := 7) (k0 := 0) (pc' := 44) rfl rfl (by decide) (by first | assumption | rfl) (hsp) ?_
      refine wp_iload_n (pc' := 45) rfl rfl rfl ?_
      refine wp_iaload (pc' := 46) rfl rfl (by first | assumption | rfl) (by omega) ?_
      refine wp_istore (pc' := 48) rfl rfl (Nat.le_of_ble_eq_true rfl) rfl ?_
      dsimp only [lset, lset2, List.set, List.getElem?_cons_zero, List.getElem?_cons_succ]
      refine wp_aload_n (pc' := 49) rfl rfl rfl (by omega) ?_
      refine wp_getR (r' := p) (ci := 7) (k0 := 0) (pc' := 52) rfl rfl (by decide) (by first | assumption | rfl) (hsp) ?_
      refine wp_iload_n (pc' := 53) rfl rfl rfl ?_
      refine wp_iconst (a := 1) (pc' := 54) rfl rfl rfl ?_
      refine wp_iadd (pc' := 55) rfl rfl (by first | exact w32_id (by omega) (by omega) | rfl) ?_
      refine wp_iaload (pc' := 56) rfl rfl (by first | assumption | rfl) (by omega) ?_
      refine wp_istore (pc' := 58) rfl rfl (Nat.le_of_ble_eq_true rfl) rfl ?_
      dsimp only [lset, lset2, List.set, List.getElem?_cons_zero, List.getElem?_cons_succ]
      refine wp_iload (pc' := 60) rfl rfl rfl ?_
      refine wp_if_lt (pc' := 63) (pt := 81) rfl rfl rfl (fun q_2 => ?_) (fun q_2 => ?_)
      · skip
        refine wp_aload_n (pc' := 82) rfl rfl rfl (by decide) ?_
        refine wp_iconst (a := 3) (pc' := 83) rfl rfl rfl ?_
        refine wp_call (pc' := 86) rfl rfl rfl rfl rfl ⟨Nat.le_of_ble_eq_true rfl, Nat.le_of_ble_eq_true rfl, Nat.le_of_ble_eq_true rfl, Nat.le_of_ble_eq_true rfl, Nat.le_of_ble_eq_true rfl⟩ rfl (c_VH_refuse hT (by decide)) ?_
        intro v1 w9 hq1
        rw [hq1.1, hq1.2]
        clear hq1 v1 w9
        dsimp only [Option.toList, List.cons_append, List.nil_append, List.append_nil]
        refine wp_ret rfl rfl rfl ?_
        first
        | (exfalso; omega)
        | (refine Or.inl ⟨rfl, wellN_zero (m := m + 1) ?_ (by omega), rfl⟩
           unfold wellN WellAt
           subst hi
           rw [if_neg (fun z => by have z2 := z.2; omega)])
      · skip
        refine wp_iload (pc' := 65) rfl rfl rfl ?_
        refine wp_iload_n (pc' := 66) rfl rfl rfl ?_
        refine wp_icmp_ge (pc' := 69) (pt := 81) rfl rfl rfl (fun q_3 => ?_) (fun q_3 => ?_)
        · skip
          refine wp_aload_n (pc' := 82) rfl rfl rfl (by decide) ?_
          refine wp_iconst (a := 3) (pc' := 83) rfl rfl rfl ?_
          refine wp_call (pc' := 86) rfl rfl rfl rfl rfl ⟨Nat.le_of_ble_eq_true rfl, Nat.le_of_ble_eq_true rfl, Nat.le_of_ble_eq_true rfl, Nat.le_of_ble_eq_true rfl, Nat.le_of_ble_eq_true rfl⟩ rfl (c_VH_refuse hT (by decide)) ?_
          intro v1 w9 hq1
          rw [hq1.1, hq1.2]
          clear hq1 v1 w9
          dsimp only [Option.toList, List.cons_append, List.nil_append, List.append_nil]
          refine wp_ret rfl rfl rfl ?_
          first
          | (exfalso; omega)
          | (refine Or.inl ⟨rfl, wellN_zero (m := m + 1) ?_ (by omega), rfl⟩
             unfold wellN WellAt
             subst hi
             rw [if_neg (fun z => by have z2 := z.2; omega)])
        · skip
          refine wp_iload (pc' := 71) rfl rfl rfl ?_
          refine wp_if_lt (pc' := 74) (pt := 81) rfl rfl rfl (fun q_4 => ?_) (fun q_4 => ?_)
          · skip
            refine wp_aload_n (pc' := 82) rfl rfl rfl (by decide) ?_
            refine wp_iconst (a := 3) (pc' := 83) rfl rfl rfl ?_
            refine wp_call (pc' := 86) rfl rfl rfl rfl rfl ⟨Nat.le_of_ble_eq_true rfl, Nat.le_of_ble_eq_true rfl, Nat.le_of_ble_eq_true rfl, Nat.le_of_ble_eq_true rfl, Nat.le_of_ble_eq_true rfl⟩ rfl (c_VH_refuse hT (by decide)) ?_
            intro v1 w9 hq1
            rw [hq1.1, hq1.2]
            clear hq1 v1 w9
            dsimp only [Option.toList, List.cons_append, List.nil_append, List.append_nil]
            refine wp_ret rfl rfl rfl ?_
            first
            | (exfalso; omega)
            | (refine Or.inl ⟨rfl, wellN_zero (m := m + 1) ?_ (by omega), rfl⟩
               unfold wellN WellAt
               subst hi
               rw [if_neg (fun z => by have z2 := z.2; omega)])
          · skip
            refine wp_iload (pc' := 76) rfl rfl rfl ?_
            refine wp_bipush (a := 30) (pc' := 78) rfl rfl rfl ?_
            refine wp_icmp_le (pc' := 81) (pt := 87) rfl rfl rfl (fun q_5 => ?_) (fun q_5 => ?_)
            · skip
              refine wp_iinc (pc' := 90) rfl rfl rfl (inc_id (by omega) (by omega)) rfl ?_
              dsimp only [lset, lset2, List.set, List.getElem?_cons_zero, List.getElem?_cons_succ]
              refine wp_goto (pc' := 30) rfl rfl ?_
              refine ih (m + 1) _ _ _ (by omega) (by omega) ?_
              unfold wellN WellAt
              subst hi
              rw [if_pos ⟨hw, by omega⟩]
            · skip
              refine wp_aload_n (pc' := 82) rfl rfl rfl (by decide) ?_
              refine wp_iconst (a := 3) (pc' := 83) rfl rfl rfl ?_
              refine wp_call (pc' := 86) rfl rfl rfl rfl rfl ⟨Nat.le_of_ble_eq_true rfl, Nat.le_of_ble_eq_true rfl, Nat.le_of_ble_eq_true rfl, Nat.le_of_ble_eq_true rfl, Nat.le_of_ble_eq_true rfl⟩ rfl (c_VH_refuse hT (by decide)) ?_
              intro v1 w9 hq1
              rw [hq1.1, hq1.2]
              clear hq1 v1 w9
              dsimp only [Option.toList, List.cons_append, List.nil_append, List.append_nil]
              refine wp_ret rfl rfl rfl ?_
              first
              | (exfalso; omega)
              | (refine Or.inl ⟨rfl, wellN_zero (m := m + 1) ?_ (by omega), rfl⟩
                 unfold wellN WellAt
                 subst hi
                 rw [if_neg (fun z => by have z2 := z.2; omega)])
set_option maxRecDepth 20000 in
set_option maxHeartbeats 4000000 in
theorem c_VH_pairsRefusal {w : Hp} {d : Nat} {s p first : Int} (hT : Stc w) (hs : StripAt w s p 40) (hz : -1 ≤ w s 1 ∧ w s 1 ≤ 40) : WP SH (d + 1) 130 0 [some (vR 0), some (vR s), some (vI first), none, none, none] [] w (fun v w' => (v = some (vI (-3)) ∧ w s 1 = -1 ∧ w' = refW w 1) ∨ (v = some (vI (-3)) ∧ w s 1 ≠ -1 ∧ w s 1 % 2 ≠ 0 ∧ w' = refW w 5) ∨ (v = some (vI (-3)) ∧ w s 1 ≠ -1 ∧ w s 1 % 2 = 0 ∧ wellN (w p) first (w s 1 / 2).toNat = 0 ∧ w' = refW w 3) ∨ (v = some (vI 0) ∧ w s 1 ≠ -1 ∧ w s 1 % 2 = 0 ∧ wellN (w p) first (w s 1 / 2).toNat = 1 ∧ w' = w)) := by
  obtain ⟨hs7, hpn, hsp, hs0, hp0, hne, hnn⟩ := id hs
  refine wp_aload_n (pc' := 1) rfl rfl rfl (by omega) ?_
  refine wp_call (pc' := 4) rfl rfl rfl rfl rfl ⟨Nat.le_of_ble_eq_true rfl, Nat.le_of_ble_eq_true rfl, Nat.le_of_ble_eq_true rfl, Nat.le_of_ble_eq_true rfl, Nat.le_of_ble_eq_true rfl⟩ (recv_strip hs7 (by decide)) (c_Strip_isMissing hs) ?_
  rintro v1 w9 ⟨hw9, ⟨hv1, hms⟩ | ⟨hv1, hms⟩⟩
  · skip
    rw [hv1, hw9]
    clear hv1 hw9 v1 w9
    dsimp only [Option.toList, List.cons_append, List.nil_append, List.append_nil]
    refine wp_if_eq (pc' := 7) (pt := 13) rfl rfl rfl (fun q_1 => absurd q_1 (by decide)) (fun q_1 => ?_)
    refine wp_aload_n (pc' := 8) rfl rfl rfl (by decide) ?_
    refine wp_iconst (a := 1) (pc' := 9) rfl rfl rfl ?_
    refine wp_call (pc' := 12) rfl rfl rfl rfl rfl ⟨Nat.le_of_ble_eq_true rfl, Nat.le_of_ble_eq_true rfl, Nat.le_of_ble_eq_true rfl, Nat.le_of_ble_eq_true rfl, Nat.le_of_ble_eq_true rfl⟩ rfl (c_VH_refuse hT (by decide)) ?_
    intro v1 w9 hq1
    rw [hq1.1, hq1.2]
    clear hq1 v1 w9
    dsimp only [Option.toList, List.cons_append, List.nil_append, List.append_nil]
    refine wp_ret rfl rfl rfl ?_
    first
    | exact Or.inl ⟨rfl, by omega, rfl⟩
    | exact Or.inr (Or.inl ⟨rfl, by omega, by omega, rfl⟩)
  · skip
    rw [hv1, hw9]
    clear hv1 hw9 v1 w9
    dsimp only [Option.toList, List.cons_append, List.nil_append, List.append_nil]
    refine wp_if_eq (pc' := 7) (pt := 13) rfl rfl rfl (fun q_2 => ?_) (fun q_2 => absurd (by decide) q_2)
    refine wp_aload_n (pc' := 14) rfl rfl rfl (by omega) ?_
    refine wp_getI (ci := 7) (k0 := 1) (pc' := 17) rfl rfl (by decide) (by first | assumption | rfl) ?_
    refine wp_iconst (a := 2) (pc' := 18) rfl rfl rfl ?_
    refine wp_irem (pc' := 19) rfl rfl (by omega) (by first | exact iRem_pos (by omega) (by omega) (by omega) | rfl) ?_
    refine wp_if_eq (pc' := 22) (pt := 28) rfl rfl rfl (fun q_3 => ?_) (fun q_3 => ?_)
    · skip
      refine wp_iconst (a := 0) (pc' := 29) rfl rfl rfl ?_
      refine wp_istore_n (pc' := 30) rfl rfl (Nat.le_of_ble_eq_true rfl) rfl ?_
      dsimp only [lset, lset2, List.set, List.getElem?_cons_zero, List.getElem?_cons_succ]
      refine (l_pairs hT hs (by omega) (w s 1 / 2).toNat 0 _ _ _ rfl (by omega) rfl).mono (fun v w' hq => ?_)
      rcases hq with hq | hq
      · exact Or.inr (Or.inr (Or.inl ⟨hq.1, by omega, by omega, hq.2.1, hq.2.2⟩))
      · exact Or.inr (Or.inr (Or.inr ⟨hq.1, by omega, by omega, hq.2.1, hq.2.2⟩))
    · skip
      refine wp_aload_n (pc' := 23) rfl rfl rfl (by decide) ?_
      refine wp_iconst (a := 5) (pc' := 24) rfl rfl rfl ?_
      refine wp_call (pc' := 27) rfl rfl rfl rfl rfl ⟨Nat.le_of_ble_eq_true rfl, Nat.le_of_ble_eq_true rfl, Nat.le_of_ble_eq_true rfl, Nat.le_of_ble_eq_true rfl, Nat.le_of_ble_eq_true rfl⟩ rfl (c_VH_refuse hT (by decide)) ?_
      intro v1 w9 hq1
      rw [hq1.1, hq1.2]
      clear hq1 v1 w9
      dsimp only [Option.toList, List.cons_append, List.nil_append, List.append_nil]
      refine wp_ret rfl rfl rfl ?_
      first
      | exact Or.inl ⟨rfl, by omega, rfl⟩
      | exact Or.inr (Or.inl ⟨rfl, by omega, by omega, rfl⟩)
set_option maxRecDepth 20000 in
set_option maxHeartbeats 4000000 in
theorem l_need_ones {w : Hp} {d : Nat} {r g : Int} (hT : Stc w) (hr : 0 ≤ r ∧ r < 6) (hz : 0 ≤ w 102 r ∧ w 102 r ≤ 40) (hn : 0 ≤ w 100 10 ∧ w 100 10 ≤ 6) : ∀ (k m : Nat) (a i : Int) (x6 : Option PV), i = 2 * (m : Int) → 2 * ((m : Int) + k) = w 102 r → a = wellN (fun j => w 103 (40 * r + j)) (w 100 10) m → WP SH (d + 2) 207 65 [some (vR 100), some (vI r), some (vI g), some (vI 0), some (vI a), some (vI i), x6] [] w (fun v w' => (v = some (vI (-3)) ∧ wellN (fun j => w 103 (40 * r + j)) (w 100 10) (w 102 r / 2).toNat = 0 ∧ w' = mW w 3) ∨ (v = some (vI 0) ∧ wellN (fun j => w 103 (40 * r + j)) (w 100 10) (w 102 r / 2).toNat = 1 ∧ w' = w)) := by
  intro k
  induction k with
  | zero =>
    intro m a i x6 hi hmk ha
    have ha01 := wellN01 (fun j => w 103 (40 * r + j)) (w 100 10) m
    rw [← ha] at ha01
    refine wp_iload (pc' := 67) rfl rfl rfl ?_
    refine wp_aload_n (pc' := 68) rfl rfl rfl (by decide) ?_
    refine wp_getR (r' := 102) (ci := 10) (k0 := 5) (pc' := 71) rfl rfl (by decide) (by first | assumption | rfl) (hT.get 100 rfl) ?_
    refine wp_iload_n (pc' := 72) rfl rfl rfl ?_
    refine wp_iaload (pc' := 73) rfl rfl (by first | assumption | rfl) (by omega) ?_
    refine wp_icmp_ge (pc' := 76) (pt := 148) rfl rfl rfl (fun q_1 => ?_) (fun q_1 => ?_)
    · skip
      refine wp_iload (pc' := 150) rfl rfl rfl ?_
      refine wp_if_eq (pc' := 153) (pt := 157) rfl rfl rfl (fun q_2 => ?_) (fun q_2 => ?_)
      · skip
        refine wp_aload_n (pc' := 158) rfl rfl rfl (by decide) ?_
        refine wp_iconst (a := 3) (pc' := 159) rfl rfl rfl ?_
        refine wp_call (pc' := 162) rfl rfl rfl rfl rfl ⟨Nat.le_of_ble_eq_true rfl, Nat.le_of_ble_eq_true rfl, Nat.le_of_ble_eq_true rfl, Nat.le_of_ble_eq_true rfl, Nat.le_of_ble_eq_true rfl⟩ rfl (c_Mod_meets hT (by decide)) ?_
        intro v1 w9 hq1
        rw [hq1.1, hq1.2]
        clear hq1 v1 w9
        dsimp only [Option.toList, List.cons_append, List.nil_append, List.append_nil]
        refine wp_ret rfl rfl rfl ?_
        rw [show (w 102 r / 2).toNat = m by omega, ← ha]
        first
        | exact Or.inl ⟨rfl, by omega, rfl⟩
        | exact Or.inr ⟨rfl, by omega, rfl⟩
      · skip
        refine wp_iconst (a := 0) (pc' := 154) rfl rfl rfl ?_
        refine wp_goto (pc' := 162) rfl rfl ?_
        refine wp_ret rfl rfl rfl ?_
        rw [show (w 102 r / 2).toNat = m by omega, ← ha]
        first
        | exact Or.inl ⟨rfl, by omega, rfl⟩
        | exact Or.inr ⟨rfl, by omega, rfl⟩
    · skip
      exfalso; omega
  | succ k ih =>
    intro m a i x6 hi hmk ha
    have ha01 := wellN01 (fun j => w 103 (40 * r + j)) (w 100 10) m
    rw [← ha] at ha01
    refine wp_iload (pc' := 67) rfl rfl rfl ?_
    refine wp_aload_n (pc' := 68) rfl rfl rfl (by decide) ?_
    refine wp_getR (r' := 102) (ci := 10) (k0 := 5) (pc' := 71) rfl rfl (by decide) (by first | assumption | rfl) (hT.get 100 rfl) ?_
    refine wp_iload_n (pc' := 72) rfl rfl rfl ?_
    refine wp_iaload (pc' := 73) rfl rfl (by first | assumption | rfl) (by omega) ?_
    refine wp_icmp_ge (pc' := 76) (pt := 148) rfl rfl rfl (fun q_1 => ?_) (fun q_1 => ?_)
    · skip
      exfalso; omega
    · skip
      refine wp_iload_n (pc' := 77) rfl rfl rfl ?_
      refine wp_if_eq (pc' := 80) (pt := 94) rfl rfl rfl (fun q_2 => ?_) (fun q_2 => absurd (by decide) q_2)
      refine wp_aload_n (pc' := 95) rfl rfl rfl (by decide) ?_
      refine wp_aload_n (pc' := 96) rfl rfl rfl (by decide) ?_
      refine wp_iload_n (pc' := 97) rfl rfl rfl ?_
      refine wp_iload (pc' := 99) rfl rfl rfl ?_
      refine wp_call (pc' := 102) rfl rfl rfl rfl rfl ⟨Nat.le_of_ble_eq_true rfl, Nat.le_of_ble_eq_true rfl, Nat.le_of_ble_eq_true rfl, Nat.le_of_ble_eq_true rfl, Nat.le_of_ble_eq_true rfl⟩ rfl (c_Mod_rowAt hT hr (by omega)) ?_
      intro v1 w9 hq1
      rw [hq1.1, hq1.2]
      clear hq1 v1 w9
      dsimp only [Option.toList, List.cons_append, List.nil_append, List.append_nil]
      refine wp_call (pc' := 105) rfl rfl rfl rfl rfl ⟨Nat.le_of_ble_eq_true rfl, Nat.le_of_ble_eq_true rfl, Nat.le_of_ble_eq_true rfl, Nat.le_of_ble_eq_true rfl, Nat.le_of_ble_eq_true rfl⟩ rfl (c_Mod_isOne hn) ?_
      rintro v1 w9 ⟨hw9, ⟨hv1, his⟩ | ⟨hv1, his⟩⟩
      · skip
        rw [hv1, hw9]
        clear hv1 hw9 v1 w9
        dsimp only [Option.toList, List.cons_append, List.nil_append, List.append_nil]
        refine wp_istore (pc' := 107) rfl rfl (Nat.le_of_ble_eq_true rfl) rfl ?_
        dsimp only [lset, lset2, List.set, List.getElem?_cons_zero, List.getElem?_cons_succ]
        refine wp_iload (pc' := 109) rfl rfl rfl ?_
        refine wp_if_eq (pc' := 112) (pt := 139) rfl rfl rfl (fun q_3 => ?_) (fun q_3 => ?_)
        · skip
          refine wp_iconst (a := 0) (pc' := 140) rfl rfl rfl ?_
          refine wp_istore (pc' := 142) rfl rfl (Nat.le_of_ble_eq_true rfl) rfl ?_
          dsimp only [lset, lset2, List.set, List.getElem?_cons_zero, List.getElem?_cons_succ]
          refine wp_iinc (pc' := 145) rfl rfl rfl (inc_id (by omega) (by omega)) rfl ?_
          dsimp only [lset, lset2, List.set, List.getElem?_cons_zero, List.getElem?_cons_succ]
          refine wp_goto (pc' := 65) rfl rfl ?_
          refine ih (m + 1) _ _ _ (by omega) (by omega) ?_
          unfold wellN WellAt
          subst hi
          dsimp only
          first
          | (rw [if_pos ⟨by omega, by omega⟩])
          | (rw [if_neg (fun z => by have z1 := z.1; have z2 := z.2; omega)])
        · skip
          refine wp_iload (pc' := 114) rfl rfl rfl ?_
          refine wp_if_eq (pc' := 117) (pt := 139) rfl rfl rfl (fun q_4 => absurd q_4 (by decide)) (fun q_4 => ?_)
          refine wp_aload_n (pc' := 118) rfl rfl rfl (by decide) ?_
          refine wp_iload_n (pc' := 119) rfl rfl rfl ?_
          refine wp_iload (pc' := 121) rfl rfl rfl ?_
          refine wp_iconst (a := 1) (pc' := 122) rfl rfl rfl ?_
          refine wp_iadd (pc' := 123) rfl rfl (by first | exact w32_id (by omega) (by omega) | rfl) ?_
          refine wp_call (pc' := 126) rfl rfl rfl rfl rfl ⟨Nat.le_of_ble_eq_true rfl, Nat.le_of_ble_eq_true rfl, Nat.le_of_ble_eq_true rfl, Nat.le_of_ble_eq_true rfl, Nat.le_of_ble_eq_true rfl⟩ rfl (c_Mod_rowAt hT hr (by omega)) ?_
          intro v1 w9 hq1
          rw [hq1.1, hq1.2]
          clear hq1 v1 w9
          dsimp only [Option.toList, List.cons_append, List.nil_append, List.append_nil]
          refine wp_iconst (a := 0) (pc' := 127) rfl rfl rfl ?_
          refine wp_bipush (a := 30) (pc' := 129) rfl rfl rfl ?_
          refine wp_call (pc' := 132) rfl rfl rfl rfl rfl ⟨Nat.le_of_ble_eq_true rfl, Nat.le_of_ble_eq_true rfl, Nat.le_of_ble_eq_true rfl, Nat.le_of_ble_eq_true rfl, Nat.le_of_ble_eq_true rfl⟩ rfl (c_Mod_in) ?_
          rintro v1 w9 ⟨hw9, ⟨hv1, hin⟩ | ⟨hv1, hin⟩⟩
          · skip
            rw [hv1, hw9]
            clear hv1 hw9 v1 w9
            dsimp only [Option.toList, List.cons_append, List.nil_append, List.append_nil]
            refine wp_if_eq (pc' := 135) (pt := 139) rfl rfl rfl (fun q_5 => absurd q_5 (by decide)) (fun q_5 => ?_)
            refine wp_iconst (a := 1) (pc' := 136) rfl rfl rfl ?_
            refine wp_goto (pc' := 140) rfl rfl ?_
            refine wp_istore (pc' := 142) rfl rfl (Nat.le_of_ble_eq_true rfl) rfl ?_
            dsimp only [lset, lset2, List.set, List.getElem?_cons_zero, List.getElem?_cons_succ]
            refine wp_iinc (pc' := 145) rfl rfl rfl (inc_id (by omega) (by omega)) rfl ?_
            dsimp only [lset, lset2, List.set, List.getElem?_cons_zero, List.getElem?_cons_succ]
            refine wp_goto (pc' := 65) rfl rfl ?_
            refine ih (m + 1) _ _ _ (by omega) (by omega) ?_
            unfold wellN WellAt
            subst hi
            dsimp only
            first
            | (rw [if_pos ⟨by omega, by omega⟩])
            | (rw [if_neg (fun z => by have z1 := z.1; have z2 := z.2; omega)])
          · skip
            rw [hv1, hw9]
            clear hv1 hw9 v1 w9
            dsimp only [Option.toList, List.cons_append, List.nil_append, List.append_nil]
            refine wp_if_eq (pc' := 135) (pt := 139) rfl rfl rfl (fun q_6 => ?_) (fun q_6 => absurd (by decide) q_6)
            refine wp_iconst (a := 0) (pc' := 140) rfl rfl rfl ?_
            refine wp_istore (pc' := 142) rfl rfl (Nat.le_of_ble_eq_true rfl) rfl ?_
            dsimp only [lset, lset2, List.set, List.getElem?_cons_zero, List.getElem?_cons_succ]
            refine wp_iinc (pc' := 145) rfl rfl rfl (inc_id (by omega) (by omega)) rfl ?_
            dsimp only [lset, lset2, List.set, List.getElem?_cons_zero, List.getElem?_cons_succ]
            refine wp_goto (pc' := 65) rfl rfl ?_
            refine ih (m + 1) _ _ _ (by omega) (by omega) ?_
            unfold wellN WellAt
            subst hi
            dsimp only
            first
            | (rw [if_pos ⟨by omega, by omega⟩])
            | (rw [if_neg (fun z => by have z1 := z.1; have z2 := z.2; omega)])
      · skip
        rw [hv1, hw9]
        clear hv1 hw9 v1 w9
        dsimp only [Option.toList, List.cons_append, List.nil_append, List.append_nil]
        refine wp_istore (pc' := 107) rfl rfl (Nat.le_of_ble_eq_true rfl) rfl ?_
        dsimp only [lset, lset2, List.set, List.getElem?_cons_zero, List.getElem?_cons_succ]
        refine wp_iload (pc' := 109) rfl rfl rfl ?_
        refine wp_if_eq (pc' := 112) (pt := 139) rfl rfl rfl (fun q_7 => ?_) (fun q_7 => ?_)
        · skip
          refine wp_iconst (a := 0) (pc' := 140) rfl rfl rfl ?_
          refine wp_istore (pc' := 142) rfl rfl (Nat.le_of_ble_eq_true rfl) rfl ?_
          dsimp only [lset, lset2, List.set, List.getElem?_cons_zero, List.getElem?_cons_succ]
          refine wp_iinc (pc' := 145) rfl rfl rfl (inc_id (by omega) (by omega)) rfl ?_
          dsimp only [lset, lset2, List.set, List.getElem?_cons_zero, List.getElem?_cons_succ]
          refine wp_goto (pc' := 65) rfl rfl ?_
          refine ih (m + 1) _ _ _ (by omega) (by omega) ?_
          unfold wellN WellAt
          subst hi
          dsimp only
          first
          | (rw [if_pos ⟨by omega, by omega⟩])
          | (rw [if_neg (fun z => by have z1 := z.1; have z2 := z.2; omega)])
        · skip
          refine wp_iload (pc' := 114) rfl rfl rfl ?_
          refine wp_if_eq (pc' := 117) (pt := 139) rfl rfl rfl (fun q_8 => ?_) (fun q_8 => absurd (by decide) q_8)
          refine wp_iconst (a := 0) (pc' := 140) rfl rfl rfl ?_
          refine wp_istore (pc' := 142) rfl rfl (Nat.le_of_ble_eq_true rfl) rfl ?_
          dsimp only [lset, lset2, List.set, List.getElem?_cons_zero, List.getElem?_cons_succ]
          refine wp_iinc (pc' := 145) rfl rfl rfl (inc_id (by omega) (by omega)) rfl ?_
          dsimp only [lset, lset2, List.set, List.getElem?_cons_zero, List.getElem?_cons_succ]
          refine wp_goto (pc' := 65) rfl rfl ?_
          refine ih (m + 1) _ _ _ (by omega) (by omega) ?_
          unfold wellN WellAt
          subst hi
          dsimp only
          first
          | (rw [if_pos ⟨by omega, by omega⟩])
          | (rw [if_neg (fun z => by have z1 := z.1; have z2 := z.2; omega)])
set_option maxRecDepth 20000 in
set_option maxHeartbeats 4000000 in
theorem c_Mod_need_ones {w : Hp} {d : Nat} {r g : Int} (hT : Stc w) (hg : g = 0 ∨ g = 1) (hz : 0 ≤ r → r < 6 → -1 ≤ w 102 r ∧ w 102 r ≤ 40) (hn : 0 ≤ w 100 10 ∧ w 100 10 ≤ 6) : WP SH (d + 2) 207 0 [some (vR 100), some (vI r), some (vI g), some (vI 0), none, none, none] [] w (fun v w' => (v = some (vI (-1)) ∧ ¬ (g = 1 ∧ (0 ≤ r ∧ r < 6)) ∧ w' = w) ∨ (v = some (vI (-4)) ∧ (g = 1 ∧ (0 ≤ r ∧ r < 6)) ∧  w 100 10 = 0 ∧ w' = w) ∨ (v = some (vI (-3)) ∧ (g = 1 ∧ (0 ≤ r ∧ r < 6)) ∧ w 100 10 ≠ 0 ∧  w 102 r = -1 ∧ w' = mW w 1) ∨ (v = some (vI (-3)) ∧ (g = 1 ∧ (0 ≤ r ∧ r < 6)) ∧ w 100 10 ≠ 0 ∧ w 102 r ≠ -1 ∧ w 102 r % 2 ≠ 0 ∧ w' = mW w 5) ∨ (v = some (vI (-3)) ∧ (g = 1 ∧ (0 ≤ r ∧ r < 6)) ∧ w 100 10 ≠ 0 ∧ w 102 r ≠ -1 ∧ w 102 r % 2 = 0 ∧ wellN (fun j => w 103 (40 * r + j)) (w 100 10) (w 102 r / 2).toNat = 0 ∧ w' = mW w 3) ∨ (v = some (vI 0) ∧ (g = 1 ∧ (0 ≤ r ∧ r < 6)) ∧ w 100 10 ≠ 0 ∧ w 102 r ≠ -1 ∧ w 102 r % 2 = 0 ∧ wellN (fun j => w 103 (40 * r + j)) (w 100 10) (w 102 r / 2).toNat = 1 ∧ w' = w)) := by
  refine wp_iload_n (pc' := 1) rfl rfl rfl ?_
  refine wp_if_eq (pc' := 4) (pt := 11) rfl rfl rfl (fun q_1 => ?_) (fun q_1 => ?_)
  · skip
    refine wp_iconst (a := -1) (pc' := 12) rfl rfl rfl ?_
    refine wp_ret rfl rfl rfl ?_
    first
    | exact Or.inl ⟨rfl, by omega, rfl⟩
    | exact Or.inr (Or.inl ⟨rfl, by omega, by omega, rfl⟩)
    | exact Or.inr (Or.inr (Or.inl ⟨rfl, by omega, by omega, by omega, rfl⟩))
    | exact Or.inr (Or.inr (Or.inr (Or.inl ⟨rfl, by omega, by omega, by omega, by omega, rfl⟩)))
  · skip
    refine wp_iload_n (pc' := 5) rfl rfl rfl ?_
    refine wp_call (pc' := 8) rfl rfl rfl rfl rfl ⟨Nat.le_of_ble_eq_true rfl, Nat.le_of_ble_eq_true rfl, Nat.le_of_ble_eq_true rfl, Nat.le_of_ble_eq_true rfl, Nat.le_of_ble_eq_true rfl⟩ rfl (c_Mod_isRow) ?_
    rintro v1 w9 ⟨hw9, ⟨hv1, hrw⟩ | ⟨hv1, hrw⟩⟩
    · skip
      rw [hv1, hw9]
      clear hv1 hw9 v1 w9
      have hzz := hz hrw.1 hrw.2
      dsimp only [Option.toList, List.cons_append, List.nil_append, List.append_nil]
      refine wp_if_ne (pc' := 11) (pt := 13) rfl rfl rfl (fun q_2 => ?_) (fun q_2 => absurd (by decide) q_2)
      refine wp_iload_n (pc' := 14) rfl rfl rfl ?_
      refine wp_if_ne (pc' := 17) (pt := 27) rfl rfl rfl (fun q_3 => absurd q_3 (by decide)) (fun q_3 => ?_)
      refine wp_aload_n (pc' := 18) rfl rfl rfl (by decide) ?_
      refine wp_getI (ci := 10) (k0 := 10) (pc' := 21) rfl rfl (by decide) (by first | assumption | rfl) ?_
      refine wp_if_ne (pc' := 24) (pt := 27) rfl rfl rfl (fun q_4 => ?_) (fun q_4 => ?_)
      · skip
        refine wp_aload_n (pc' := 28) rfl rfl rfl (by decide) ?_
        refine wp_getR (r' := 102) (ci := 10) (k0 := 5) (pc' := 31) rfl rfl (by decide) (by first | assumption | rfl) (hT.get 100 rfl) ?_
        refine wp_iload_n (pc' := 32) rfl rfl rfl ?_
        refine wp_iaload (pc' := 33) rfl rfl (by first | assumption | rfl) (by omega) ?_
        refine wp_if_ge (pc' := 36) (pt := 42) rfl rfl rfl (fun q_5 => ?_) (fun q_5 => ?_)
        · skip
          refine wp_aload_n (pc' := 43) rfl rfl rfl (by decide) ?_
          refine wp_getR (r' := 102) (ci := 10) (k0 := 5) (pc' := 46) rfl rfl (by decide) (by first | assumption | rfl) (hT.get 100 rfl) ?_
          refine wp_iload_n (pc' := 47) rfl rfl rfl ?_
          refine wp_iaload (pc' := 48) rfl rfl (by first | assumption | rfl) (by omega) ?_
          refine wp_iconst (a := 2) (pc' := 49) rfl rfl rfl ?_
          refine wp_irem (pc' := 50) rfl rfl (by omega) (by first | exact iRem_pos (by omega) (by omega) (by omega) | rfl) ?_
          refine wp_if_eq (pc' := 53) (pt := 59) rfl rfl rfl (fun q_6 => ?_) (fun q_6 => ?_)
          · skip
            refine wp_iconst (a := 1) (pc' := 60) rfl rfl rfl ?_
            refine wp_istore (pc' := 62) rfl rfl (Nat.le_of_ble_eq_true rfl) rfl ?_
            dsimp only [lset, lset2, List.set, List.getElem?_cons_zero, List.getElem?_cons_succ]
            refine wp_iconst (a := 0) (pc' := 63) rfl rfl rfl ?_
            refine wp_istore (pc' := 65) rfl rfl (Nat.le_of_ble_eq_true rfl) rfl ?_
            dsimp only [lset, lset2, List.set, List.getElem?_cons_zero, List.getElem?_cons_succ]
            refine (l_need_ones hT hrw (by omega) hn (w 102 r / 2).toNat 0 _ _ _ rfl (by omega) rfl).mono (fun v w' hq => ?_)
            rcases hq with hq | hq
            · exact Or.inr (Or.inr (Or.inr (Or.inr (Or.inl ⟨hq.1, by omega, by omega, by omega, by omega, hq.2.1, hq.2.2⟩))))
            · exact Or.inr (Or.inr (Or.inr (Or.inr (Or.inr (⟨hq.1, by omega, by omega, by omega, by omega, hq.2.1, hq.2.2⟩)))))
          · skip
            refine wp_aload_n (pc' := 54) rfl rfl rfl (by decide) ?_
            refine wp_iconst (a := 5) (pc' := 55) rfl rfl rfl ?_
            refine wp_call (pc' := 58) rfl rfl rfl rfl rfl ⟨Nat.le_of_ble_eq_true rfl, Nat.le_of_ble_eq_true rfl, Nat.le_of_ble_eq_true rfl, Nat.le_of_ble_eq_true rfl, Nat.le_of_ble_eq_true rfl⟩ rfl (c_Mod_meets hT (by decide)) ?_
            intro v1 w9 hq1
            rw [hq1.1, hq1.2]
            clear hq1 v1 w9
            dsimp only [Option.toList, List.cons_append, List.nil_append, List.append_nil]
            refine wp_ret rfl rfl rfl ?_
            first
            | exact Or.inl ⟨rfl, by omega, rfl⟩
            | exact Or.inr (Or.inl ⟨rfl, by omega, by omega, rfl⟩)
            | exact Or.inr (Or.inr (Or.inl ⟨rfl, by omega, by omega, by omega, rfl⟩))
            | exact Or.inr (Or.inr (Or.inr (Or.inl ⟨rfl, by omega, by omega, by omega, by omega, rfl⟩)))
        · skip
          refine wp_aload_n (pc' := 37) rfl rfl rfl (by decide) ?_
          refine wp_iconst (a := 1) (pc' := 38) rfl rfl rfl ?_
          refine wp_call (pc' := 41) rfl rfl rfl rfl rfl ⟨Nat.le_of_ble_eq_true rfl, Nat.le_of_ble_eq_true rfl, Nat.le_of_ble_eq_true rfl, Nat.le_of_ble_eq_true rfl, Nat.le_of_ble_eq_true rfl⟩ rfl (c_Mod_meets hT (by decide)) ?_
          intro v1 w9 hq1
          rw [hq1.1, hq1.2]
          clear hq1 v1 w9
          dsimp only [Option.toList, List.cons_append, List.nil_append, List.append_nil]
          refine wp_ret rfl rfl rfl ?_
          first
          | exact Or.inl ⟨rfl, by omega, rfl⟩
          | exact Or.inr (Or.inl ⟨rfl, by omega, by omega, rfl⟩)
          | exact Or.inr (Or.inr (Or.inl ⟨rfl, by omega, by omega, by omega, rfl⟩))
          | exact Or.inr (Or.inr (Or.inr (Or.inl ⟨rfl, by omega, by omega, by omega, by omega, rfl⟩)))
      · skip
        refine wp_bipush (a := -4) (pc' := 26) rfl rfl rfl ?_
        refine wp_ret rfl rfl rfl ?_
        first
        | exact Or.inl ⟨rfl, by omega, rfl⟩
        | exact Or.inr (Or.inl ⟨rfl, by omega, by omega, rfl⟩)
        | exact Or.inr (Or.inr (Or.inl ⟨rfl, by omega, by omega, by omega, rfl⟩))
        | exact Or.inr (Or.inr (Or.inr (Or.inl ⟨rfl, by omega, by omega, by omega, by omega, rfl⟩)))
    · skip
      rw [hv1, hw9]
      clear hv1 hw9 v1 w9
      dsimp only [Option.toList, List.cons_append, List.nil_append, List.append_nil]
      refine wp_if_ne (pc' := 11) (pt := 13) rfl rfl rfl (fun q_7 => absurd q_7 (by decide)) (fun q_7 => ?_)
      refine wp_iconst (a := -1) (pc' := 12) rfl rfl rfl ?_
      refine wp_ret rfl rfl rfl ?_
      first
      | exact Or.inl ⟨rfl, by omega, rfl⟩
      | exact Or.inr (Or.inl ⟨rfl, by omega, by omega, rfl⟩)
      | exact Or.inr (Or.inr (Or.inl ⟨rfl, by omega, by omega, by omega, rfl⟩))
      | exact Or.inr (Or.inr (Or.inr (Or.inl ⟨rfl, by omega, by omega, by omega, by omega, rfl⟩)))
set_option maxRecDepth 20000 in
set_option maxHeartbeats 4000000 in
theorem l_need_cells {w : Hp} {d : Nat} {r g : Int} (hT : Stc w) (hr : 0 ≤ r ∧ r < 6) (hz : 0 ≤ w 102 r ∧ w 102 r ≤ 40) (hn : 0 ≤ w 100 11 * w 100 12 ∧ w 100 11 * w 100 12 ≤ 25) : ∀ (k m : Nat) (a i : Int) (x6 : Option PV), i = 2 * (m : Int) → 2 * ((m : Int) + k) = w 102 r → a = wellN (fun j => w 103 (40 * r + j)) (w 100 11 * w 100 12) m → WP SH (d + 2) 207 65 [some (vR 100), some (vI r), some (vI g), some (vI 1), some (vI a), some (vI i), x6] [] w (fun v w' => (v = some (vI (-3)) ∧ wellN (fun j => w 103 (40 * r + j)) (w 100 11 * w 100 12) (w 102 r / 2).toNat = 0 ∧ w' = mW w 3) ∨ (v = some (vI 0) ∧ wellN (fun j => w 103 (40 * r + j)) (w 100 11 * w 100 12) (w 102 r / 2).toNat = 1 ∧ w' = w)) := by
  intro k
  induction k with
  | zero =>
    intro m a i x6 hi hmk ha
    have ha01 := wellN01 (fun j => w 103 (40 * r + j)) (w 100 11 * w 100 12) m
    rw [← ha] at ha01
    refine wp_iload (pc' := 67) rfl rfl rfl ?_
    refine wp_aload_n (pc' := 68) rfl rfl rfl (by decide) ?_
    refine wp_getR (r' := 102) (ci := 10) (k0 := 5) (pc' := 71) rfl rfl (by decide) (by first | assumption | rfl) (hT.get 100 rfl) ?_
    refine wp_iload_n (pc' := 72) rfl rfl rfl ?_
    refine wp_iaload (pc' := 73) rfl rfl (by first | assumption | rfl) (by omega) ?_
    refine wp_icmp_ge (pc' := 76) (pt := 148) rfl rfl rfl (fun q_1 => ?_) (fun q_1 => ?_)
    · skip
      refine wp_iload (pc' := 150) rfl rfl rfl ?_
      refine wp_if_eq (pc' := 153) (pt := 157) rfl rfl rfl (fun q_2 => ?_) (fun q_2 => ?_)
      · skip
        refine wp_aload_n (pc' := 158) rfl rfl rfl (by decide) ?_
        refine wp_iconst (a := 3) (pc' := 159) rfl rfl rfl ?_
        refine wp_call (pc' := 162) rfl rfl rfl rfl rfl ⟨Nat.le_of_ble_eq_true rfl, Nat.le_of_ble_eq_true rfl, Nat.le_of_ble_eq_true rfl, Nat.le_of_ble_eq_true rfl, Nat.le_of_ble_eq_true rfl⟩ rfl (c_Mod_meets hT (by decide)) ?_
        intro v1 w9 hq1
        rw [hq1.1, hq1.2]
        clear hq1 v1 w9
        dsimp only [Option.toList, List.cons_append, List.nil_append, List.append_nil]
        refine wp_ret rfl rfl rfl ?_
        rw [show (w 102 r / 2).toNat = m by omega, ← ha]
        first
        | exact Or.inl ⟨rfl, by omega, rfl⟩
        | exact Or.inr ⟨rfl, by omega, rfl⟩
      · skip
        refine wp_iconst (a := 0) (pc' := 154) rfl rfl rfl ?_
        refine wp_goto (pc' := 162) rfl rfl ?_
        refine wp_ret rfl rfl rfl ?_
        rw [show (w 102 r / 2).toNat = m by omega, ← ha]
        first
        | exact Or.inl ⟨rfl, by omega, rfl⟩
        | exact Or.inr ⟨rfl, by omega, rfl⟩
    · skip
      exfalso; omega
  | succ k ih =>
    intro m a i x6 hi hmk ha
    have ha01 := wellN01 (fun j => w 103 (40 * r + j)) (w 100 11 * w 100 12) m
    rw [← ha] at ha01
    refine wp_iload (pc' := 67) rfl rfl rfl ?_
    refine wp_aload_n (pc' := 68) rfl rfl rfl (by decide) ?_
    refine wp_getR (r' := 102) (ci := 10) (k0 := 5) (pc' := 71) rfl rfl (by decide) (by first | assumption | rfl) (hT.get 100 rfl) ?_
    refine wp_iload_n (pc' := 72) rfl rfl rfl ?_
    refine wp_iaload (pc' := 73) rfl rfl (by first | assumption | rfl) (by omega) ?_
    refine wp_icmp_ge (pc' := 76) (pt := 148) rfl rfl rfl (fun q_1 => ?_) (fun q_1 => ?_)
    · skip
      exfalso; omega
    · skip
      refine wp_iload_n (pc' := 77) rfl rfl rfl ?_
      refine wp_if_eq (pc' := 80) (pt := 94) rfl rfl rfl (fun q_2 => absurd q_2 (by decide)) (fun q_2 => ?_)
      refine wp_aload_n (pc' := 81) rfl rfl rfl (by decide) ?_
      refine wp_aload_n (pc' := 82) rfl rfl rfl (by decide) ?_
      refine wp_iload_n (pc' := 83) rfl rfl rfl ?_
      refine wp_iload (pc' := 85) rfl rfl rfl ?_
      refine wp_call (pc' := 88) rfl rfl rfl rfl rfl ⟨Nat.le_of_ble_eq_true rfl, Nat.le_of_ble_eq_true rfl, Nat.le_of_ble_eq_true rfl, Nat.le_of_ble_eq_true rfl, Nat.le_of_ble_eq_true rfl⟩ rfl (c_Mod_rowAt hT hr (by omega)) ?_
      intro v1 w9 hq1
      rw [hq1.1, hq1.2]
      clear hq1 v1 w9
      dsimp only [Option.toList, List.cons_append, List.nil_append, List.append_nil]
      refine wp_call (pc' := 91) rfl rfl rfl rfl rfl ⟨Nat.le_of_ble_eq_true rfl, Nat.le_of_ble_eq_true rfl, Nat.le_of_ble_eq_true rfl, Nat.le_of_ble_eq_true rfl, Nat.le_of_ble_eq_true rfl⟩ rfl (c_Mod_isCell hn) ?_
      rintro v1 w9 ⟨hw9, ⟨hv1, his⟩ | ⟨hv1, his⟩⟩
      · skip
        rw [hv1, hw9]
        clear hv1 hw9 v1 w9
        dsimp only [Option.toList, List.cons_append, List.nil_append, List.append_nil]
        refine wp_goto (pc' := 105) rfl rfl ?_
        refine wp_istore (pc' := 107) rfl rfl (Nat.le_of_ble_eq_true rfl) rfl ?_
        dsimp only [lset, lset2, List.set, List.getElem?_cons_zero, List.getElem?_cons_succ]
        refine wp_iload (pc' := 109) rfl rfl rfl ?_
        refine wp_if_eq (pc' := 112) (pt := 139) rfl rfl rfl (fun q_3 => ?_) (fun q_3 => ?_)
        · skip
          refine wp_iconst (a := 0) (pc' := 140) rfl rfl rfl ?_
          refine wp_istore (pc' := 142) rfl rfl (Nat.le_of_ble_eq_true rfl) rfl ?_
          dsimp only [lset, lset2, List.set, List.getElem?_cons_zero, List.getElem?_cons_succ]
          refine wp_iinc (pc' := 145) rfl rfl rfl (inc_id (by omega) (by omega)) rfl ?_
          dsimp only [lset, lset2, List.set, List.getElem?_cons_zero, List.getElem?_cons_succ]
          refine wp_goto (pc' := 65) rfl rfl ?_
          refine ih (m + 1) _ _ _ (by omega) (by omega) ?_
          unfold wellN WellAt
          subst hi
          dsimp only
          first
          | (rw [if_pos ⟨by omega, by omega⟩])
          | (rw [if_neg (fun z => by have z1 := z.1; have z2 := z.2; omega)])
        · skip
          refine wp_iload (pc' := 114) rfl rfl rfl ?_
          refine wp_if_eq (pc' := 117) (pt := 139) rfl rfl rfl (fun q_4 => absurd q_4 (by decide)) (fun q_4 => ?_)
          refine wp_aload_n (pc' := 118) rfl rfl rfl (by decide) ?_
          refine wp_iload_n (pc' := 119) rfl rfl rfl ?_
          refine wp_iload (pc' := 121) rfl rfl rfl ?_
          refine wp_iconst (a := 1) (pc' := 122) rfl rfl rfl ?_
          refine wp_iadd (pc' := 123) rfl rfl (by first | exact w32_id (by omega) (by omega) | rfl) ?_
          refine wp_call (pc' := 126) rfl rfl rfl rfl rfl ⟨Nat.le_of_ble_eq_true rfl, Nat.le_of_ble_eq_true rfl, Nat.le_of_ble_eq_true rfl, Nat.le_of_ble_eq_true rfl, Nat.le_of_ble_eq_true rfl⟩ rfl (c_Mod_rowAt hT hr (by omega)) ?_
          intro v1 w9 hq1
          rw [hq1.1, hq1.2]
          clear hq1 v1 w9
          dsimp only [Option.toList, List.cons_append, List.nil_append, List.append_nil]
          refine wp_iconst (a := 0) (pc' := 127) rfl rfl rfl ?_
          refine wp_bipush (a := 30) (pc' := 129) rfl rfl rfl ?_
          refine wp_call (pc' := 132) rfl rfl rfl rfl rfl ⟨Nat.le_of_ble_eq_true rfl, Nat.le_of_ble_eq_true rfl, Nat.le_of_ble_eq_true rfl, Nat.le_of_ble_eq_true rfl, Nat.le_of_ble_eq_true rfl⟩ rfl (c_Mod_in) ?_
          rintro v1 w9 ⟨hw9, ⟨hv1, hin⟩ | ⟨hv1, hin⟩⟩
          · skip
            rw [hv1, hw9]
            clear hv1 hw9 v1 w9
            dsimp only [Option.toList, List.cons_append, List.nil_append, List.append_nil]
            refine wp_if_eq (pc' := 135) (pt := 139) rfl rfl rfl (fun q_5 => absurd q_5 (by decide)) (fun q_5 => ?_)
            refine wp_iconst (a := 1) (pc' := 136) rfl rfl rfl ?_
            refine wp_goto (pc' := 140) rfl rfl ?_
            refine wp_istore (pc' := 142) rfl rfl (Nat.le_of_ble_eq_true rfl) rfl ?_
            dsimp only [lset, lset2, List.set, List.getElem?_cons_zero, List.getElem?_cons_succ]
            refine wp_iinc (pc' := 145) rfl rfl rfl (inc_id (by omega) (by omega)) rfl ?_
            dsimp only [lset, lset2, List.set, List.getElem?_cons_zero, List.getElem?_cons_succ]
            refine wp_goto (pc' := 65) rfl rfl ?_
            refine ih (m + 1) _ _ _ (by omega) (by omega) ?_
            unfold wellN WellAt
            subst hi
            dsimp only
            first
            | (rw [if_pos ⟨by omega, by omega⟩])
            | (rw [if_neg (fun z => by have z1 := z.1; have z2 := z.2; omega)])
          · skip
            rw [hv1, hw9]
            clear hv1 hw9 v1 w9
            dsimp only [Option.toList, List.cons_append, List.nil_append, List.append_nil]
            refine wp_if_eq (pc' := 135) (pt := 139) rfl rfl rfl (fun q_6 => ?_) (fun q_6 => absurd (by decide) q_6)
            refine wp_iconst (a := 0) (pc' := 140) rfl rfl rfl ?_
            refine wp_istore (pc' := 142) rfl rfl (Nat.le_of_ble_eq_true rfl) rfl ?_
            dsimp only [lset, lset2, List.set, List.getElem?_cons_zero, List.getElem?_cons_succ]
            refine wp_iinc (pc' := 145) rfl rfl rfl (inc_id (by omega) (by omega)) rfl ?_
            dsimp only [lset, lset2, List.set, List.getElem?_cons_zero, List.getElem?_cons_succ]
            refine wp_goto (pc' := 65) rfl rfl ?_
            refine ih (m + 1) _ _ _ (by omega) (by omega) ?_
            unfold wellN WellAt
            subst hi
            dsimp only
            first
            | (rw [if_pos ⟨by omega, by omega⟩])
            | (rw [if_neg (fun z => by have z1 := z.1; have z2 := z.2; omega)])
      · skip
        rw [hv1, hw9]
        clear hv1 hw9 v1 w9
        dsimp only [Option.toList, List.cons_append, List.nil_append, List.append_nil]
        refine wp_goto (pc' := 105) rfl rfl ?_
        refine wp_istore (pc' := 107) rfl rfl (Nat.le_of_ble_eq_true rfl) rfl ?_
        dsimp only [lset, lset2, List.set, List.getElem?_cons_zero, List.getElem?_cons_succ]
        refine wp_iload (pc' := 109) rfl rfl rfl ?_
        refine wp_if_eq (pc' := 112) (pt := 139) rfl rfl rfl (fun q_7 => ?_) (fun q_7 => ?_)
        · skip
          refine wp_iconst (a := 0) (pc' := 140) rfl rfl rfl ?_
          refine wp_istore (pc' := 142) rfl rfl (Nat.le_of_ble_eq_true rfl) rfl ?_
          dsimp only [lset, lset2, List.set, List.getElem?_cons_zero, List.getElem?_cons_succ]
          refine wp_iinc (pc' := 145) rfl rfl rfl (inc_id (by omega) (by omega)) rfl ?_
          dsimp only [lset, lset2, List.set, List.getElem?_cons_zero, List.getElem?_cons_succ]
          refine wp_goto (pc' := 65) rfl rfl ?_
          refine ih (m + 1) _ _ _ (by omega) (by omega) ?_
          unfold wellN WellAt
          subst hi
          dsimp only
          first
          | (rw [if_pos ⟨by omega, by omega⟩])
          | (rw [if_neg (fun z => by have z1 := z.1; have z2 := z.2; omega)])
        · skip
          refine wp_iload (pc' := 114) rfl rfl rfl ?_
          refine wp_if_eq (pc' := 117) (pt := 139) rfl rfl rfl (fun q_8 => ?_) (fun q_8 => absurd (by decide) q_8)
          refine wp_iconst (a := 0) (pc' := 140) rfl rfl rfl ?_
          refine wp_istore (pc' := 142) rfl rfl (Nat.le_of_ble_eq_true rfl) rfl ?_
          dsimp only [lset, lset2, List.set, List.getElem?_cons_zero, List.getElem?_cons_succ]
          refine wp_iinc (pc' := 145) rfl rfl rfl (inc_id (by omega) (by omega)) rfl ?_
          dsimp only [lset, lset2, List.set, List.getElem?_cons_zero, List.getElem?_cons_succ]
          refine wp_goto (pc' := 65) rfl rfl ?_
          refine ih (m + 1) _ _ _ (by omega) (by omega) ?_
          unfold wellN WellAt
          subst hi
          dsimp only
          first
          | (rw [if_pos ⟨by omega, by omega⟩])
          | (rw [if_neg (fun z => by have z1 := z.1; have z2 := z.2; omega)])
set_option maxRecDepth 20000 in
set_option maxHeartbeats 4000000 in
theorem c_Mod_need_cells {w : Hp} {d : Nat} {r g : Int} (hT : Stc w) (hg : g = 0 ∨ g = 1) (hz : 0 ≤ r → r < 6 → -1 ≤ w 102 r ∧ w 102 r ≤ 40) (hn : 0 ≤ w 100 11 * w 100 12 ∧ w 100 11 * w 100 12 ≤ 25) : WP SH (d + 2) 207 0 [some (vR 100), some (vI r), some (vI g), some (vI 1), none, none, none] [] w (fun v w' => (v = some (vI (-1)) ∧ ¬ (g = 1 ∧ (0 ≤ r ∧ r < 6)) ∧ w' = w) ∨ (v = some (vI (-3)) ∧ (g = 1 ∧ (0 ≤ r ∧ r < 6)) ∧  w 102 r = -1 ∧ w' = mW w 1) ∨ (v = some (vI (-3)) ∧ (g = 1 ∧ (0 ≤ r ∧ r < 6)) ∧ w 102 r ≠ -1 ∧ w 102 r % 2 ≠ 0 ∧ w' = mW w 5) ∨ (v = some (vI (-3)) ∧ (g = 1 ∧ (0 ≤ r ∧ r < 6)) ∧ w 102 r ≠ -1 ∧ w 102 r % 2 = 0 ∧ wellN (fun j => w 103 (40 * r + j)) (w 100 11 * w 100 12) (w 102 r / 2).toNat = 0 ∧ w' = mW w 3) ∨ (v = some (vI 0) ∧ (g = 1 ∧ (0 ≤ r ∧ r < 6)) ∧ w 102 r ≠ -1 ∧ w 102 r % 2 = 0 ∧ wellN (fun j => w 103 (40 * r + j)) (w 100 11 * w 100 12) (w 102 r / 2).toNat = 1 ∧ w' = w)) := by
  refine wp_iload_n (pc' := 1) rfl rfl rfl ?_
  refine wp_if_eq (pc' := 4) (pt := 11) rfl rfl rfl (fun q_1 => ?_) (fun q_1 => ?_)
  · skip
    refine wp_iconst (a := -1) (pc' := 12) rfl rfl rfl ?_
    refine wp_ret rfl rfl rfl ?_
    first
    | exact Or.inl ⟨rfl, by omega, rfl⟩
    | exact Or.inr (Or.inl ⟨rfl, by omega, by omega, rfl⟩)
    | exact Or.inr (Or.inr (Or.inl ⟨rfl, by omega, by omega, by omega, rfl⟩))
  · skip
    refine wp_iload_n (pc' := 5) rfl rfl rfl ?_
    refine wp_call (pc' := 8) rfl rfl rfl rfl rfl ⟨Nat.le_of_ble_eq_true rfl, Nat.le_of_ble_eq_true rfl, Nat.le_of_ble_eq_true rfl, Nat.le_of_ble_eq_true rfl, Nat.le_of_ble_eq_true rfl⟩ rfl (c_Mod_isRow) ?_
    rintro v1 w9 ⟨hw9, ⟨hv1, hrw⟩ | ⟨hv1, hrw⟩⟩
    · skip
      rw [hv1, hw9]
      clear hv1 hw9 v1 w9
      have hzz := hz hrw.1 hrw.2
      dsimp only [Option.toList, List.cons_append, List.nil_append, List.append_nil]
      refine wp_if_ne (pc' := 11) (pt := 13) rfl rfl rfl (fun q_2 => ?_) (fun q_2 => absurd (by decide) q_2)
      refine wp_iload_n (pc' := 14) rfl rfl rfl ?_
      refine wp_if_ne (pc' := 17) (pt := 27) rfl rfl rfl (fun q_3 => ?_) (fun q_3 => absurd (by decide) q_3)
      refine wp_aload_n (pc' := 28) rfl rfl rfl (by decide) ?_
      refine wp_getR (r' := 102) (ci := 10) (k0 := 5) (pc' := 31) rfl rfl (by decide) (by first | assumption | rfl) (hT.get 100 rfl) ?_
      refine wp_iload_n (pc' := 32) rfl rfl rfl ?_
      refine wp_iaload (pc' := 33) rfl rfl (by first | assumption | rfl) (by omega) ?_
      refine wp_if_ge (pc' := 36) (pt := 42) rfl rfl rfl (fun q_4 => ?_) (fun q_4 => ?_)
      · skip
        refine wp_aload_n (pc' := 43) rfl rfl rfl (by decide) ?_
        refine wp_getR (r' := 102) (ci := 10) (k0 := 5) (pc' := 46) rfl rfl (by decide) (by first | assumption | rfl) (hT.get 100 rfl) ?_
        refine wp_iload_n (pc' := 47) rfl rfl rfl ?_
        refine wp_iaload (pc' := 48) rfl rfl (by first | assumption | rfl) (by omega) ?_
        refine wp_iconst (a := 2) (pc' := 49) rfl rfl rfl ?_
        refine wp_irem (pc' := 50) rfl rfl (by omega) (by first | exact iRem_pos (by omega) (by omega) (by omega) | rfl) ?_
        refine wp_if_eq (pc' := 53) (pt := 59) rfl rfl rfl (fun q_5 => ?_) (fun q_5 => ?_)
        · skip
          refine wp_iconst (a := 1) (pc' := 60) rfl rfl rfl ?_
          refine wp_istore (pc' := 62) rfl rfl (Nat.le_of_ble_eq_true rfl) rfl ?_
          dsimp only [lset, lset2, List.set, List.getElem?_cons_zero, List.getElem?_cons_succ]
          refine wp_iconst (a := 0) (pc' := 63) rfl rfl rfl ?_
          refine wp_istore (pc' := 65) rfl rfl (Nat.le_of_ble_eq_true rfl) rfl ?_
          dsimp only [lset, lset2, List.set, List.getElem?_cons_zero, List.getElem?_cons_succ]
          refine (l_need_cells hT hrw (by omega) hn (w 102 r / 2).toNat 0 _ _ _ rfl (by omega) rfl).mono (fun v w' hq => ?_)
          rcases hq with hq | hq
          · exact Or.inr (Or.inr (Or.inr (Or.inl ⟨hq.1, by omega, by omega, by omega, hq.2.1, hq.2.2⟩)))
          · exact Or.inr (Or.inr (Or.inr (Or.inr (⟨hq.1, by omega, by omega, by omega, hq.2.1, hq.2.2⟩))))
        · skip
          refine wp_aload_n (pc' := 54) rfl rfl rfl (by decide) ?_
          refine wp_iconst (a := 5) (pc' := 55) rfl rfl rfl ?_
          refine wp_call (pc' := 58) rfl rfl rfl rfl rfl ⟨Nat.le_of_ble_eq_true rfl, Nat.le_of_ble_eq_true rfl, Nat.le_of_ble_eq_true rfl, Nat.le_of_ble_eq_true rfl, Nat.le_of_ble_eq_true rfl⟩ rfl (c_Mod_meets hT (by decide)) ?_
          intro v1 w9 hq1
          rw [hq1.1, hq1.2]
          clear hq1 v1 w9
          dsimp only [Option.toList, List.cons_append, List.nil_append, List.append_nil]
          refine wp_ret rfl rfl rfl ?_
          first
          | exact Or.inl ⟨rfl, by omega, rfl⟩
          | exact Or.inr (Or.inl ⟨rfl, by omega, by omega, rfl⟩)
          | exact Or.inr (Or.inr (Or.inl ⟨rfl, by omega, by omega, by omega, rfl⟩))
      · skip
        refine wp_aload_n (pc' := 37) rfl rfl rfl (by decide) ?_
        refine wp_iconst (a := 1) (pc' := 38) rfl rfl rfl ?_
        refine wp_call (pc' := 41) rfl rfl rfl rfl rfl ⟨Nat.le_of_ble_eq_true rfl, Nat.le_of_ble_eq_true rfl, Nat.le_of_ble_eq_true rfl, Nat.le_of_ble_eq_true rfl, Nat.le_of_ble_eq_true rfl⟩ rfl (c_Mod_meets hT (by decide)) ?_
        intro v1 w9 hq1
        rw [hq1.1, hq1.2]
        clear hq1 v1 w9
        dsimp only [Option.toList, List.cons_append, List.nil_append, List.append_nil]
        refine wp_ret rfl rfl rfl ?_
        first
        | exact Or.inl ⟨rfl, by omega, rfl⟩
        | exact Or.inr (Or.inl ⟨rfl, by omega, by omega, rfl⟩)
        | exact Or.inr (Or.inr (Or.inl ⟨rfl, by omega, by omega, by omega, rfl⟩))
    · skip
      rw [hv1, hw9]
      clear hv1 hw9 v1 w9
      dsimp only [Option.toList, List.cons_append, List.nil_append, List.append_nil]
      refine wp_if_ne (pc' := 11) (pt := 13) rfl rfl rfl (fun q_6 => absurd q_6 (by decide)) (fun q_6 => ?_)
      refine wp_iconst (a := -1) (pc' := 12) rfl rfl rfl ?_
      refine wp_ret rfl rfl rfl ?_
      first
      | exact Or.inl ⟨rfl, by omega, rfl⟩
      | exact Or.inr (Or.inl ⟨rfl, by omega, by omega, rfl⟩)
      | exact Or.inr (Or.inr (Or.inl ⟨rfl, by omega, by omega, by omega, rfl⟩))
