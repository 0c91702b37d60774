/-! reading a land: what both read; the class's small steps -/
def bA (T : Int → Int) (z p : Int) : Int := if p < z then T p else 0
def fg (T : Int → Int) (z p lo hi : Int) : Int := if lo ≤ bA T z p - 48 ∧ bA T z p - 48 ≤ hi then bA T z p - 48 else -1
def kd (b : Int) : Int := if b = 102 then 0 else if b = 118 then 1 else if b = 119 then 2 else if b = 103 then 3 else if b = 109 then 4 else if b = 104 then 5 else -1
theorem fg_lt {T : Int → Int} {z p lo hi : Int} (hlo : 0 ≤ lo) (h : fg T z p lo hi ≠ -1) : p < z ∧ lo ≤ fg T z p lo hi ∧ fg T z p lo hi ≤ hi := by
  unfold fg at h ⊢
  split at h
  · rename_i hc
    rw [if_pos hc]
    unfold bA at hc ⊢
    split at hc
    · rename_i hp
      rw [if_pos hp]
      exact ⟨hp, hc⟩
    · omega
  · exact absurd rfl h
theorem kd_in (b : Int) : -1 ≤ kd b ∧ kd b ≤ 5 := by
  unfold kd
  (repeat' split) <;> omega
theorem fg_congr {T T' : Int → Int} {z p lo hi : Int} (h0 : 0 ≤ p) (h : ∀ j : Int, 0 ≤ j → j < z → T j = T' j) : fg T z p lo hi = fg T' z p lo hi := by
  have : bA T z p = bA T' z p := by
    unfold bA
    split
    · exact h p h0 (by assumption)
    · rfl
  unfold fg
  rw [this]
def Rd (w : Hp) (s pa z : Int) : Prop := w 22 0 = s ∧ StripAt w s pa 60 ∧ w s 1 = z ∧ (0 ≤ z ∧ z ≤ 60) ∧ (∀ j : Int, 0 ≤ j → j < z → -128 ≤ w pa j ∧ w pa j ≤ 127) ∧ (65 ≤ s ∧ s ≤ 72) ∧ (65 ≤ pa ∧ pa ≤ 72)
theorem Rd.put {w : Hp} {s pa z : Int} (h : Rd w s pa z) {r i x : Int} (hr : (r < 65 ∨ 72 < r) ∧ (r ≠ 22 ∨ i ≠ 0)) : Rd (up w r i x) s pa z := by
  obtain ⟨h1, ⟨a1, a2, a3, a4, a5, a6, a7⟩, h3, h4, h5, h6, h7⟩ := h
  refine ⟨?_, ⟨a1, a2, by rw [up_ne (by omega)]; exact a3, a4, a5, a6, a7⟩, by rw [up_ne (by omega)]; exact h3, h4, ?_, h6, h7⟩
  · by_cases hz : (22 : Int) = r
    · subst hz
      rw [up_at (by omega)]
      exact h1
    · rw [up_ne hz]
      exact h1
  · rw [up_ne (show pa ≠ r by omega)]
    exact h5
set_option maxRecDepth 20000 in
set_option maxHeartbeats 4000000 in
theorem c_Rd_atEnd {w : Hp} {d : Nat} {s pa z : Int} (hR : Rd w s pa z) : WP SH (d + 0) 66 0 [some (vR 22)] [] w (fun v w' => w' = w ∧ ((v = some (vI 1) ∧ z ≤ w 22 1) ∨ (v = some (vI 0) ∧ w 22 1 < z))) := by
  obtain ⟨hsrc, ⟨hs7, hpn, hsp, hs0, hp0, hne, hnn⟩, hsz, hz, hby, hsr, hpr9⟩ := id hR
  refine wp_aload_n (pc' := 1) rfl rfl rfl (by omega) ?_
  refine wp_getR (r' := s) (ci := 6) (k0 := 0) (pc' := 4) rfl rfl (by decide) (by first | assumption | rfl) (hsrc) ?_
  refine wp_ifnull (pc' := 7) rfl rfl (by omega) ?_
  refine wp_aload_n (pc' := 8) rfl rfl rfl (by omega) ?_
  refine wp_getI (ci := 6) (k0 := 1) (pc' := 11) rfl rfl (by decide) (by first | assumption | rfl) ?_
  refine wp_aload_n (pc' := 12) rfl rfl rfl (by omega) ?_
  refine wp_getR (r' := s) (ci := 6) (k0 := 0) (pc' := 15) rfl rfl (by decide) (by first | assumption | rfl) (hsrc) ?_
  refine wp_getI (ci := 7) (k0 := 1) (pc' := 18) rfl rfl (by decide) (by first | assumption | rfl) ?_
  refine wp_icmp_lt (pc' := 21) (pt := 25) rfl rfl rfl (fun q_1 => ?_) (fun q_1 => ?_)
  · skip
    refine wp_iconst (a := 0) (pc' := 26) rfl rfl rfl ?_
    refine wp_ret rfl rfl rfl ?_
    first
    | exact ⟨rfl, Or.inl ⟨rfl, by omega⟩⟩
    | exact ⟨rfl, Or.inr ⟨rfl, by omega⟩⟩
  · skip
    refine wp_iconst (a := 1) (pc' := 22) rfl rfl rfl ?_
    refine wp_goto (pc' := 26) rfl rfl ?_
    refine wp_ret rfl rfl rfl ?_
    first
    | exact ⟨rfl, Or.inl ⟨rfl, by omega⟩⟩
    | exact ⟨rfl, Or.inr ⟨rfl, by omega⟩⟩
set_option maxRecDepth 20000 in
set_option maxHeartbeats 4000000 in
theorem c_Rd_sign {w : Hp} {d : Nat} {s pa z : Int} (hR : Rd w s pa z) (hp : 0 ≤ w 22 1 ∧ w 22 1 < z) : WP SH (d + 0) 67 0 [some (vR 22)] [] w (fun v w' => v = some (vI (w pa (w 22 1))) ∧ w' = w) := by
  obtain ⟨hsrc, ⟨hs7, hpn, hsp, hs0, hp0, hne, hnn⟩, hsz, hz, hby, hsr, hpr9⟩ := id hR
  refine wp_aload_n (pc' := 1) rfl rfl rfl (by omega) ?_
  refine wp_getR (r' := s) (ci := 6) (k0 := 0) (pc' := 4) rfl rfl (by decide) (by first | assumption | rfl) (hsrc) ?_
  refine wp_ifnull (pc' := 7) rfl rfl (by omega) ?_
  refine wp_aload_n (pc' := 8) rfl rfl rfl (by omega) ?_
  refine wp_getI (ci := 6) (k0 := 1) (pc' := 11) rfl rfl (by decide) (by first | assumption | rfl) ?_
  refine wp_if_lt (pc' := 14) (pt := 28) rfl rfl rfl (fun q_1 => ?_) (fun q_1 => ?_)
  · skip
    refine wp_bipush (a := 32) (pc' := 30) rfl rfl rfl ?_
    refine wp_goto (pc' := 45) rfl rfl ?_
    refine wp_ret rfl rfl rfl ?_
    first
    | (exfalso; omega)
    | exact ⟨rfl, rfl⟩
  · skip
    refine wp_aload_n (pc' := 15) rfl rfl rfl (by omega) ?_
    refine wp_getI (ci := 6) (k0 := 1) (pc' := 18) rfl rfl (by decide) (by first | assumption | rfl) ?_
    refine wp_aload_n (pc' := 19) rfl rfl rfl (by omega) ?_
    refine wp_getR (r' := s) (ci := 6) (k0 := 0) (pc' := 22) rfl rfl (by decide) (by first | assumption | rfl) (hsrc) ?_
    refine wp_getI (ci := 7) (k0 := 1) (pc' := 25) rfl rfl (by decide) (by first | assumption | rfl) ?_
    refine wp_icmp_lt (pc' := 28) (pt := 33) rfl rfl rfl (fun q_2 => ?_) (fun q_2 => ?_)
    · skip
      refine wp_aload_n (pc' := 34) rfl rfl rfl (by omega) ?_
      refine wp_getR (r' := s) (ci := 6) (k0 := 0) (pc' := 37) rfl rfl (by decide) (by first | assumption | rfl) (hsrc) ?_
      refine wp_getR (r' := pa) (ci := 7) (k0 := 0) (pc' := 40) rfl rfl (by decide) (by first | assumption | rfl) (hsp) ?_
      refine wp_aload_n (pc' := 41) rfl rfl rfl (by omega) ?_
      refine wp_getI (ci := 6) (k0 := 1) (pc' := 44) rfl rfl (by decide) (by first | assumption | rfl) ?_
      refine wp_iaload (pc' := 45) rfl rfl (by first | assumption | rfl) (by omega) ?_
      refine wp_ret rfl rfl rfl ?_
      first
      | (exfalso; omega)
      | exact ⟨rfl, rfl⟩
    · skip
      refine wp_bipush (a := 32) (pc' := 30) rfl rfl rfl ?_
      refine wp_goto (pc' := 45) rfl rfl ?_
      refine wp_ret rfl rfl rfl ?_
      first
      | (exfalso; omega)
      | exact ⟨rfl, rfl⟩
set_option maxRecDepth 20000 in
set_option maxHeartbeats 4000000 in
theorem c_Rd_figure {w : Hp} {d : Nat} {s pa z : Int} (hR : Rd w s pa z) {lo hi : Int} (hp : 0 ≤ w 22 1) (hlo : 0 ≤ lo) (hhi : hi ≤ 9) : WP SH (d + 1) 65 0 [some (vR 22), some (vI lo), some (vI hi), none] [] w (fun v w' => v = some (vI (fg (w pa) z (w 22 1) lo hi)) ∧ w' = if fg (w pa) z (w 22 1) lo hi = -1 then w else up w 22 1 (w 22 1 + 1)) := by
  obtain ⟨hsrc, ⟨hs7, hpn, hsp, hs0, hp0, hne, hnn⟩, hsz, hz, hby, hsr, hpr9⟩ := id hR
  refine wp_aload_n (pc' := 1) rfl rfl rfl (by omega) ?_
  refine wp_call (pc' := 4) rfl rfl rfl rfl rfl ⟨Nat.le_of_ble_eq_true rfl, Nat.le_of_ble_eq_true rfl, Nat.le_of_ble_eq_true rfl, Nat.le_of_ble_eq_true rfl, Nat.le_of_ble_eq_true rfl⟩ rfl (c_Rd_atEnd hR) ?_
  rintro v1 w9 ⟨hw9, ⟨hv1, hat⟩ | ⟨hv1, hat⟩⟩
  · skip
    rw [hv1, hw9]
    clear hv1 hw9 v1 w9
    dsimp only [Option.toList, List.cons_append, List.nil_append, List.append_nil]
    refine wp_if_eq (pc' := 7) (pt := 11) rfl rfl rfl (fun q_1 => absurd q_1 (by decide)) (fun q_1 => ?_)
    refine wp_iconst (a := -1) (pc' := 8) rfl rfl rfl ?_
    refine wp_goto (pc' := 18) rfl rfl ?_
    refine wp_istore_n (pc' := 19) rfl rfl (Nat.le_of_ble_eq_true rfl) rfl ?_
    dsimp only [lset, lset2, List.set, List.getElem?_cons_zero, List.getElem?_cons_succ]
    refine wp_iload_n (pc' := 20) rfl rfl rfl ?_
    refine wp_iload_n (pc' := 21) rfl rfl rfl ?_
    refine wp_icmp_lt (pc' := 24) (pt := 29) rfl rfl rfl (fun q_2 => ?_) (fun q_2 => ?_)
    · skip
      refine wp_iconst (a := -1) (pc' := 30) rfl rfl rfl ?_
      refine wp_ret rfl rfl rfl ?_
      unfold fg bA
      first
      | (rw [if_neg (show ¬ w 22 1 < z by omega), if_neg (by omega), if_pos rfl]; exact ⟨rfl, rfl⟩)
      | (rw [if_pos (show w 22 1 < z by omega), if_neg (by omega), if_pos rfl]; exact ⟨rfl, rfl⟩)
      | (rw [if_pos (show w 22 1 < z by omega), if_pos (by omega), if_neg (by omega)]; exact ⟨rfl, rfl⟩)
      | (exfalso; omega)
    · skip
      refine wp_iload_n (pc' := 25) rfl rfl rfl ?_
      refine wp_iload_n (pc' := 26) rfl rfl rfl ?_
      refine wp_icmp_le (pc' := 29) (pt := 31) rfl rfl rfl (fun q_3 => ?_) (fun q_3 => ?_)
      · skip
        refine wp_aload_n (pc' := 32) rfl rfl rfl (by omega) ?_
        refine wp_dupR (pc' := 33) rfl rfl ?_
        refine wp_getI (ci := 6) (k0 := 1) (pc' := 36) rfl rfl (by decide) (by first | assumption | rfl) ?_
        refine wp_iconst (a := 1) (pc' := 37) rfl rfl rfl ?_
        refine wp_iadd (pc' := 38) rfl rfl (by first | exact w32_id (by omega) (by omega) | rfl) ?_
        refine wp_putI (ci := 6) (k0 := 1) (pc' := 41) rfl rfl (by decide) (by first | assumption | rfl) ?_
        refine wp_iload_n (pc' := 42) rfl rfl rfl ?_
        refine wp_ret rfl rfl rfl ?_
        unfold fg bA
        first
        | (rw [if_neg (show ¬ w 22 1 < z by omega), if_neg (by omega), if_pos rfl]; exact ⟨rfl, rfl⟩)
        | (rw [if_pos (show w 22 1 < z by omega), if_neg (by omega), if_pos rfl]; exact ⟨rfl, rfl⟩)
        | (rw [if_pos (show w 22 1 < z by omega), if_pos (by omega), if_neg (by omega)]; exact ⟨rfl, rfl⟩)
        | (exfalso; omega)
      · skip
        refine wp_iconst (a := -1) (pc' := 30) rfl rfl rfl ?_
        refine wp_ret rfl rfl rfl ?_
        unfold fg bA
        first
        | (rw [if_neg (show ¬ w 22 1 < z by omega), if_neg (by omega), if_pos rfl]; exact ⟨rfl, rfl⟩)
        | (rw [if_pos (show w 22 1 < z by omega), if_neg (by omega), if_pos rfl]; exact ⟨rfl, rfl⟩)
        | (rw [if_pos (show w 22 1 < z by omega), if_pos (by omega), if_neg (by omega)]; exact ⟨rfl, rfl⟩)
        | (exfalso; omega)
  · skip
    rw [hv1, hw9]
    clear hv1 hw9 v1 w9
    dsimp only [Option.toList, List.cons_append, List.nil_append, List.append_nil]
    refine wp_if_eq (pc' := 7) (pt := 11) rfl rfl rfl (fun q_4 => ?_) (fun q_4 => absurd (by decide) q_4)
    refine wp_aload_n (pc' := 12) rfl rfl rfl (by omega) ?_
    refine wp_call (pc' := 15) rfl rfl rfl rfl rfl ⟨Nat.le_of_ble_eq_true rfl, Nat.le_of_ble_eq_true rfl, Nat.le_of_ble_eq_true rfl, Nat.le_of_ble_eq_true rfl, Nat.le_of_ble_eq_true rfl⟩ rfl (c_Rd_sign hR (by omega)) ?_
    intro v1 w9 hq1
    rw [hq1.1, hq1.2]
    clear hq1 v1 w9
    have hbp := hby (w 22 1) (by omega) (by omega)
    dsimp only [Option.toList, List.cons_append, List.nil_append, List.append_nil]
    refine wp_bipush (a := 48) (pc' := 17) rfl rfl rfl ?_
    refine wp_isub (pc' := 18) rfl rfl (by first | exact w32_id (by omega) (by omega) | rfl) ?_
    refine wp_istore_n (pc' := 19) rfl rfl (Nat.le_of_ble_eq_true rfl) rfl ?_
    dsimp only [lset, lset2, List.set, List.getElem?_cons_zero, List.getElem?_cons_succ]
    refine wp_iload_n (pc' := 20) rfl rfl rfl ?_
    refine wp_iload_n (pc' := 21) rfl rfl rfl ?_
    refine wp_icmp_lt (pc' := 24) (pt := 29) rfl rfl rfl (fun q_5 => ?_) (fun q_5 => ?_)
    · skip
      refine wp_iconst (a := -1) (pc' := 30) rfl rfl rfl ?_
      refine wp_ret rfl rfl rfl ?_
      unfold fg bA
      first
      | (rw [if_neg (show ¬ w 22 1 < z by omega), if_neg (by omega), if_pos rfl]; exact ⟨rfl, rfl⟩)
      | (rw [if_pos (show w 22 1 < z by omega), if_neg (by omega), if_pos rfl]; exact ⟨rfl, rfl⟩)
      | (rw [if_pos (show w 22 1 < z by omega), if_pos (by omega), if_neg (by omega)]; exact ⟨rfl, rfl⟩)
      | (exfalso; omega)
    · skip
      refine wp_iload_n (pc' := 25) rfl rfl rfl ?_
      refine wp_iload_n (pc' := 26) rfl rfl rfl ?_
      refine wp_icmp_le (pc' := 29) (pt := 31) rfl rfl rfl (fun q_6 => ?_) (fun q_6 => ?_)
      · skip
        refine wp_aload_n (pc' := 32) rfl rfl rfl (by omega) ?_
        refine wp_dupR (pc' := 33) rfl rfl ?_
        refine wp_getI (ci := 6) (k0 := 1) (pc' := 36) rfl rfl (by decide) (by first | assumption | rfl) ?_
        refine wp_iconst (a := 1) (pc' := 37) rfl rfl rfl ?_
        refine wp_iadd (pc' := 38) rfl rfl (by first | exact w32_id (by omega) (by omega) | rfl) ?_
        refine wp_putI (ci := 6) (k0 := 1) (pc' := 41) rfl rfl (by decide) (by first | assumption | rfl) ?_
        refine wp_iload_n (pc' := 42) rfl rfl rfl ?_
        refine wp_ret rfl rfl rfl ?_
        unfold fg bA
        first
        | (rw [if_neg (show ¬ w 22 1 < z by omega), if_neg (by omega), if_pos rfl]; exact ⟨rfl, rfl⟩)
        | (rw [if_pos (show w 22 1 < z by omega), if_neg (by omega), if_pos rfl]; exact ⟨rfl, rfl⟩)
        | (rw [if_pos (show w 22 1 < z by omega), if_pos (by omega), if_neg (by omega)]; exact ⟨rfl, rfl⟩)
        | (exfalso; omega)
      · skip
        refine wp_iconst (a := -1) (pc' := 30) rfl rfl rfl ?_
        refine wp_ret rfl rfl rfl ?_
        unfold fg bA
        first
        | (rw [if_neg (show ¬ w 22 1 < z by omega), if_neg (by omega), if_pos rfl]; exact ⟨rfl, rfl⟩)
        | (rw [if_pos (show w 22 1 < z by omega), if_neg (by omega), if_pos rfl]; exact ⟨rfl, rfl⟩)
        | (rw [if_pos (show w 22 1 < z by omega), if_pos (by omega), if_neg (by omega)]; exact ⟨rfl, rfl⟩)
        | (exfalso; omega)
set_option maxRecDepth 20000 in
set_option maxHeartbeats 4000000 in
theorem l_skip {w : Hp} {d : Nat} {s pa z p0 : Int} (hR : Rd w s pa z) (hp00 : 0 ≤ p0) : ∀ (k : Nat) (y p : Int), 0 ≤ y → y + k = 60 → p ≤ p0 + y → p0 + y ≤ p → p ≤ z → (∀ i : Int, p0 ≤ i → i < p → w pa i = 32) → WP SH (d + 1) 68 2 [some (vR 22), some (vI y)] [] (up w 22 1 p) (fun v w' => v = none ∧ ∃ q : Int, w' = up w 22 1 q ∧ p0 ≤ q ∧ q ≤ z ∧ (∀ i : Int, p0 ≤ i → i < q → w pa i = 32) ∧ (q = z ∨ (q < z ∧ w pa q ≠ 32))) := by
  intro k
  induction k with
  | zero =>
    intro y p hy hyk hpy hpy2 hpz hbl
    obtain ⟨hsrc, ⟨hs7, hpn, hsp, hs0, hp0, hne, hnn⟩, hsz, hz, hby, hsr, hpr9⟩ := id hR
    have hR1 : Rd (up w 22 1 p) s pa z := hR.put (by omega)
    have hpp : up w 22 1 p 22 1 = p := up_eq _ _ _ _
    have hpa : up w 22 1 p pa = w pa := up_ne (by omega)
    have hsrc1 := hR1.1
    refine wp_iload_n (pc' := 3) rfl rfl rfl ?_
    refine wp_bipush (a := 60) (pc' := 5) rfl rfl rfl ?_
    refine wp_icmp_ge (pc' := 8) (pt := 40) rfl rfl rfl (fun q_1 => ?_) (fun q_1 => ?_)
    · skip
      refine wp_ret rfl rfl rfl ?_
      first
      | (exfalso; omega)
      | exact ⟨rfl, p, rfl, by omega, hpz, hbl, Or.inl (by omega)⟩
      | exact ⟨rfl, p, rfl, by omega, hpz, hbl, Or.inr ⟨by omega, by omega⟩⟩
    · skip
      exfalso; omega
  | succ k ih =>
    intro y p hy hyk hpy hpy2 hpz hbl
    obtain ⟨hsrc, ⟨hs7, hpn, hsp, hs0, hp0, hne, hnn⟩, hsz, hz, hby, hsr, hpr9⟩ := id hR
    have hR1 : Rd (up w 22 1 p) s pa z := hR.put (by omega)
    have hpp : up w 22 1 p 22 1 = p := up_eq _ _ _ _
    have hpa : up w 22 1 p pa = w pa := up_ne (by omega)
    have hsrc1 := hR1.1
    refine wp_iload_n (pc' := 3) rfl rfl rfl ?_
    refine wp_bipush (a := 60) (pc' := 5) rfl rfl rfl ?_
    refine wp_icmp_ge (pc' := 8) (pt := 40) rfl rfl rfl (fun q_1 => ?_) (fun q_1 => ?_)
    · skip
      refine wp_ret rfl rfl rfl ?_
      first
      | (exfalso; omega)
      | exact ⟨rfl, p, rfl, by omega, hpz, hbl, Or.inl (by omega)⟩
      | exact ⟨rfl, p, rfl, by omega, hpz, hbl, Or.inr ⟨by omega, by omega⟩⟩
    · skip
      refine wp_aload_n (pc' := 9) rfl rfl rfl (by omega) ?_
      refine wp_call (pc' := 12) rfl rfl rfl rfl rfl ⟨Nat.le_of_ble_eq_true rfl, Nat.le_of_ble_eq_true rfl, Nat.le_of_ble_eq_true rfl, Nat.le_of_ble_eq_true rfl, Nat.le_of_ble_eq_true rfl⟩ rfl (c_Rd_atEnd hR1) ?_
      rintro v1 w9 ⟨hw9, ⟨hv1, hat⟩ | ⟨hv1, hat⟩⟩
      · skip
        rw [hv1, hw9]
        clear hv1 hw9 v1 w9
        rw [hpp] at hat
        dsimp only [Option.toList, List.cons_append, List.nil_append, List.append_nil]
        refine wp_if_ne (pc' := 15) (pt := 40) rfl rfl rfl (fun q_2 => ?_) (fun q_2 => absurd (by decide) q_2)
        refine wp_ret rfl rfl rfl ?_
        first
        | (exfalso; omega)
        | exact ⟨rfl, p, rfl, by omega, hpz, hbl, Or.inl (by omega)⟩
        | exact ⟨rfl, p, rfl, by omega, hpz, hbl, Or.inr ⟨by omega, by omega⟩⟩
      · skip
        rw [hv1, hw9]
        clear hv1 hw9 v1 w9
        rw [hpp] at hat
        dsimp only [Option.toList, List.cons_append, List.nil_append, List.append_nil]
        refine wp_if_ne (pc' := 15) (pt := 40) rfl rfl rfl (fun q_3 => absurd q_3 (by decide)) (fun q_3 => ?_)
        refine wp_aload_n (pc' := 16) rfl rfl rfl (by omega) ?_
        refine wp_call (pc' := 19) rfl rfl rfl rfl rfl ⟨Nat.le_of_ble_eq_true rfl, Nat.le_of_ble_eq_true rfl, Nat.le_of_ble_eq_true rfl, Nat.le_of_ble_eq_true rfl, Nat.le_of_ble_eq_true rfl⟩ rfl (c_Rd_sign hR1 (by omega)) ?_
        intro v1 w9 hq1
        rw [hq1.1, hq1.2]
        clear hq1 v1 w9
        rw [hpp, hpa]
        dsimp only [Option.toList, List.cons_append, List.nil_append, List.append_nil]
        refine wp_bipush (a := 32) (pc' := 21) rfl rfl rfl ?_
        refine wp_icmp_ne (pc' := 24) (pt := 40) rfl rfl rfl (fun q_4 => ?_) (fun q_4 => ?_)
        · skip
          refine wp_ret rfl rfl rfl ?_
          first
          | (exfalso; omega)
          | exact ⟨rfl, p, rfl, by omega, hpz, hbl, Or.inl (by omega)⟩
          | exact ⟨rfl, p, rfl, by omega, hpz, hbl, Or.inr ⟨by omega, by omega⟩⟩
        · skip
          refine wp_aload_n (pc' := 25) rfl rfl rfl (by omega) ?_
          refine wp_dupR (pc' := 26) rfl rfl ?_
          refine wp_getI (ci := 6) (k0 := 1) (pc' := 29) rfl rfl (by decide) (by first | assumption | rfl) ?_
          refine wp_iconst (a := 1) (pc' := 30) rfl rfl rfl ?_
          refine wp_iadd (pc' := 31) rfl rfl (by first | exact w32_id (by omega) (by omega) | rfl) ?_
          refine wp_putI (ci := 6) (k0 := 1) (pc' := 34) rfl rfl (by decide) (by first | assumption | rfl) ?_
          rw [hpp]
          refine wp_iinc (pc' := 37) rfl rfl rfl (inc_id (by omega) (by omega)) rfl ?_
          dsimp only [lset, lset2, List.set, List.getElem?_cons_zero, List.getElem?_cons_succ]
          refine wp_goto (pc' := 2) rfl rfl ?_
          rw [up_up]
          refine ih (y + 1) (p + 1) (by omega) (by omega) (by omega) (by omega) (by omega) (fun i i0 i1 => ?_)
          by_cases hi : i = p
          · rw [hi]; omega
          · exact hbl i i0 (by omega)
set_option maxRecDepth 20000 in
set_option maxHeartbeats 4000000 in
theorem c_Rd_skip {w : Hp} {d : Nat} {s pa z : Int} (hR : Rd w s pa z) (hp : 0 ≤ w 22 1 ∧ w 22 1 ≤ z) : WP SH (d + 1) 68 0 [some (vR 22), none] [] w (fun v w' => v = none ∧ ∃ q : Int, w' = up w 22 1 q ∧ w 22 1 ≤ q ∧ q ≤ z ∧ (∀ i : Int, w 22 1 ≤ i → i < q → w pa i = 32) ∧ (q = z ∨ (q < z ∧ w pa q ≠ 32))) := by
  refine wp_iconst (a := 0) (pc' := 1) rfl rfl rfl ?_
  refine wp_istore_n (pc' := 2) rfl rfl (Nat.le_of_ble_eq_true rfl) rfl ?_
  dsimp only [lset, lset2, List.set, List.getElem?_cons_zero, List.getElem?_cons_succ]
  have hid := up_id w 22 1
  have hg := l_skip (w := w) (d := d) (p0 := w 22 1) hR hp.1 60 0 (w 22 1) (by decide) (by decide) (by omega) (by omega) hp.2 (fun i a b => absurd b (by omega))
  rw [hid] at hg
  exact hg
set_option maxRecDepth 20000 in
set_option maxHeartbeats 4000000 in
theorem l_kindOf {w : Hp} {d : Nat} {b : Int} (hr : ROw w) : ∀ (k : Nat) (y : Int), 0 ≤ y → y + k = 6 → (∀ j : Int, 0 ≤ j → j < y → w (-3) j ≠ b) → WP SH d 64 2 [some (vI b), some (vI y)] [] w (fun v w' => v = some (vI (kd b)) ∧ w' = w) := by
  intro k
  induction k with
  | zero =>
    intro y h0 hyk hn
    obtain ⟨r0, r1, r2, r3, r4, r5, r6⟩ := id hr.1
    refine wp_iload_n (pc' := 3) rfl rfl rfl ?_
    refine wp_getstatic (pc' := 6) rfl rfl ?_
    refine wp_alenO (pc' := 7) rfl rfl (by omega) ?_
    refine wp_icmp_ge (pc' := 10) (pt := 27) rfl rfl rfl (fun q_1 => ?_) (fun q_1 => ?_)
    · skip
      refine wp_iconst (a := -1) (pc' := 28) rfl rfl rfl ?_
      refine wp_ret rfl rfl rfl ?_
      refine ⟨congrArg (fun z => some (vI z)) ?_, rfl⟩
      have n0 := hn 0 (by decide)
      have n1 := hn 1 (by decide)
      have n2 := hn 2 (by decide)
      have n3 := hn 3 (by decide)
      have n4 := hn 4 (by decide)
      have n5 := hn 5 (by decide)
      rw [r1] at n0
      rw [r2] at n1
      rw [r3] at n2
      rw [r4] at n3
      rw [r5] at n4
      rw [r6] at n5
      unfold kd
      have hyy : y = 0 ∨ y = 1 ∨ y = 2 ∨ y = 3 ∨ y = 4 ∨ y = 5 ∨ y = 6 := by omega
      rcases hyy with rfl | rfl | rfl | rfl | rfl | rfl | rfl <;> (try simp only [r1, r2, r3, r4, r5, r6] at *) <;> (repeat' split) <;> omega
    · skip
      exfalso; omega
  | succ k ih =>
    intro y h0 hyk hn
    obtain ⟨r0, r1, r2, r3, r4, r5, r6⟩ := id hr.1
    refine wp_iload_n (pc' := 3) rfl rfl rfl ?_
    refine wp_getstatic (pc' := 6) rfl rfl ?_
    refine wp_alenO (pc' := 7) rfl rfl (by omega) ?_
    refine wp_icmp_ge (pc' := 10) (pt := 27) rfl rfl rfl (fun q_1 => ?_) (fun q_1 => ?_)
    · skip
      exfalso; omega
    · skip
      refine wp_getstatic (pc' := 13) rfl rfl ?_
      refine wp_iload_n (pc' := 14) rfl rfl rfl ?_
      refine wp_caloadO (pc' := 15) rfl rfl (by omega) ?_
      refine wp_iload_n (pc' := 16) rfl rfl rfl ?_
      refine wp_icmp_ne (pc' := 19) (pt := 21) rfl rfl rfl (fun q_2 => ?_) (fun q_2 => ?_)
      · skip
        refine wp_iinc (pc' := 24) rfl rfl rfl (inc_id (by omega) (by omega)) rfl ?_
        dsimp only [lset, lset2, List.set, List.getElem?_cons_zero, List.getElem?_cons_succ]
        refine wp_goto (pc' := 2) rfl rfl ?_
        refine ih (y + 1) (by omega) (by omega) (fun j j0 j1 => ?_)
        by_cases hj : j = y
        · rw [hj]; omega
        · exact hn j j0 (by omega)
      · skip
        refine wp_iload_n (pc' := 20) rfl rfl rfl ?_
        refine wp_ret rfl rfl rfl ?_
        refine ⟨congrArg (fun z => some (vI z)) ?_, rfl⟩
        have n0 := hn 0 (by decide)
        have n1 := hn 1 (by decide)
        have n2 := hn 2 (by decide)
        have n3 := hn 3 (by decide)
        have n4 := hn 4 (by decide)
        have n5 := hn 5 (by decide)
        rw [r1] at n0
        rw [r2] at n1
        rw [r3] at n2
        rw [r4] at n3
        rw [r5] at n4
        rw [r6] at n5
        unfold kd
        have hyy : y = 0 ∨ y = 1 ∨ y = 2 ∨ y = 3 ∨ y = 4 ∨ y = 5 ∨ y = 6 := by omega
        rcases hyy with rfl | rfl | rfl | rfl | rfl | rfl | rfl <;> (try simp only [r1, r2, r3, r4, r5, r6] at *) <;> (repeat' split) <;> omega
set_option maxRecDepth 20000 in
set_option maxHeartbeats 4000000 in
theorem c_Rd_kindOf {w : Hp} {d : Nat} {b : Int} (hr : ROw w) : WP SH (d + 0) 64 0 [some (vI b), none] [] w (fun v w' => v = some (vI (kd b)) ∧ w' = w) := by
  refine wp_iconst (a := 0) (pc' := 1) rfl rfl rfl ?_
  refine wp_istore_n (pc' := 2) rfl rfl (Nat.le_of_ble_eq_true rfl) rfl ?_
  dsimp only [lset, lset2, List.set, List.getElem?_cons_zero, List.getElem?_cons_succ]
  exact l_kindOf hr 6 0 (by decide) (by decide) (fun j a b => absurd b (by omega))
