/-! reading a land: the ground, one -/
def hE (T : Int → Int) (z q : Int) : Int := if bA T z q ≠ 108 then q else if fg T z (q + 1) 3 5 = -1 then q + 1 else if fg T z (q + 2) 3 5 = -1 then q + 2 else if fg T z (q + 3) 0 (fg T z (q + 1) 3 5 - 1) = -1 then q + 3 else if fg T z (q + 4) 0 (fg T z (q + 2) 3 5 - 1) = -1 then q + 4 else q + 5
def oE (T : Int → Int) (z c l p : Int) : Int := if kd (bA T z p) = -1 then p else if fg T z (p + 1) 0 (c - 1) = -1 then p + 1 else if fg T z (p + 2) 0 (l - 1) = -1 then p + 2 else if fg T z (p + 3) 1 9 = -1 then p + 3 else p + 4
theorem c_Rd_figP {w : Hp} {d : Nat} {s pa z lo hi P : Int} (hR : Rd w s pa z) (hp : 0 ≤ P) (hlo : 0 ≤ lo) (hhi : hi ≤ 9) : WP SH (d + 1) 65 0 [some (vR 22), some (vI lo), some (vI hi), none] [] (up w 22 1 P) (fun v w' => v = some (vI (fg (w pa) z P lo hi)) ∧ w' = up w 22 1 (if fg (w pa) z P lo hi = -1 then P else P + 1)) := by
  have hR1 : Rd (up w 22 1 P) s pa z := hR.put (by omega)
  have hpa : up w 22 1 P pa = w pa := up_ne (by have := hR.2.2.2.2.2.2; omega)
  refine (c_Rd_figure (d := d) (lo := lo) (hi := hi) hR1 (by rw [up_eq]; exact hp) hlo hhi).mono (fun v w' hq => ?_)
  rw [hpa, up_eq] at hq
  refine ⟨hq.1, ?_⟩
  rw [hq.2]
  by_cases h : fg (w pa) z P lo hi = -1
  · rw [if_pos h, if_pos h]
  · rw [if_neg h, if_neg h, up_up]
theorem c_Rd_atP {w : Hp} {d : Nat} {s pa z P : Int} (hR : Rd w s pa z) : WP SH (d + 0) 66 0 [some (vR 22)] [] (up w 22 1 P) (fun v w' => w' = up w 22 1 P ∧ ((v = some (vI 1) ∧ z ≤ P) ∨ (v = some (vI 0) ∧ P < z))) := by
  have hR1 : Rd (up w 22 1 P) s pa z := hR.put (by omega)
  refine (c_Rd_atEnd (d := d) hR1).mono (fun v w' hq => ?_)
  rw [up_eq] at hq
  exact hq
theorem c_Rd_signP {w : Hp} {d : Nat} {s pa z P : Int} (hR : Rd w s pa z) (hp : 0 ≤ P ∧ P < z) : WP SH (d + 0) 67 0 [some (vR 22)] [] (up w 22 1 P) (fun v w' => v = some (vI (w pa P)) ∧ w' = up w 22 1 P) := by
  have hR1 : Rd (up w 22 1 P) s pa z := hR.put (by omega)
  have hpa : up w 22 1 P pa = w pa := up_ne (by have := hR.2.2.2.2.2.2; omega)
  refine (c_Rd_sign (d := d) hR1 (by rw [up_eq]; exact hp)).mono (fun v w' hq => ?_)
  rw [hpa, up_eq] at hq
  exact hq
theorem c_Rd_skipP {w : Hp} {d : Nat} {s pa z P : Int} (hR : Rd w s pa z) (hp : 0 ≤ P ∧ P ≤ z) : WP SH (d + 1) 68 0 [some (vR 22), none] [] (up w 22 1 P) (fun v w' => v = none ∧ ∃ q : Int, w' = up w 22 1 q ∧ P ≤ q ∧ q ≤ z ∧ (∀ i : Int, P ≤ i → i < q → w pa i = 32) ∧ (q = z ∨ (q < z ∧ w pa q ≠ 32))) := by
  have hR1 : Rd (up w 22 1 P) s pa z := hR.put (by omega)
  have hpa : up w 22 1 P pa = w pa := up_ne (by have := hR.2.2.2.2.2.2; omega)
  refine (c_Rd_skip (d := d) hR1 (by rw [up_eq]; exact hp)).mono (fun v w' hq => ?_)
  obtain ⟨h1, q, h2, h3, h4, h5, h6⟩ := hq
  rw [up_eq] at h3 h5
  rw [up_up] at h2
  rw [hpa] at h5 h6
  exact ⟨h1, q, h2, h3, h4, h5, h6⟩
set_option maxRecDepth 20000 in
set_option maxHeartbeats 4000000 in
theorem c_Rd_ground {w : Hp} {d : Nat} {s pa z P0 : Int} (hR : Rd w s pa z) (hp : 0 ≤ P0 ∧ P0 ≤ z) : WP SH (d + 2) 62 0 [some (vR 22), some (vR 12), none, none, none, none] [] (up w 22 1 P0) (fun v w' => ∃ q : Int, P0 ≤ q ∧ q ≤ z ∧ (∀ i : Int, P0 ≤ i → i < q → w pa i = 32) ∧ (q = z ∨ (q < z ∧ w pa q ≠ 32)) ∧ ((v = some (vI 0) ∧ hE (w pa) z q < q + 5 ∧ w' = up w 22 1 (hE (w pa) z q)) ∨ (v = some (vI 1) ∧ hE (w pa) z q = q + 5 ∧ q + 5 ≤ z ∧ (3 ≤ fg (w pa) z (q + 1) 3 5 ∧ fg (w pa) z (q + 1) 3 5 ≤ 5) ∧ (3 ≤ fg (w pa) z (q + 2) 3 5 ∧ fg (w pa) z (q + 2) 3 5 ≤ 5) ∧ (0 ≤ fg (w pa) z (q + 3) 0 (fg (w pa) z (q + 1) 3 5 - 1) ∧ fg (w pa) z (q + 3) 0 (fg (w pa) z (q + 1) 3 5 - 1) ≤ fg (w pa) z (q + 1) 3 5 - 1) ∧ (0 ≤ fg (w pa) z (q + 4) 0 (fg (w pa) z (q + 2) 3 5 - 1) ∧ fg (w pa) z (q + 4) 0 (fg (w pa) z (q + 2) 3 5 - 1) ≤ fg (w pa) z (q + 2) 3 5 - 1) ∧ w' = up (up (up (up w 22 1 (q + 5)) 12 0 (fg (w pa) z (q + 1) 3 5)) 12 1 (fg (w pa) z (q + 2) 3 5)) 12 3 ((fg (w pa) z (q + 1) 3 5) * (fg (w pa) z (q + 4) 0 (fg (w pa) z (q + 2) 3 5 - 1)) + (fg (w pa) z (q + 3) 0 (fg (w pa) z (q + 1) 3 5 - 1)))))) := by
  obtain ⟨hsrc, ⟨hs7, hpn, hsp, hs0, hp0, hne, hnn⟩, hsz, hz, hby, hsr, hpr9⟩ := id hR
  refine wp_aload_n (pc' := 1) rfl rfl rfl (by omega) ?_
  refine wp_call (pc' := 4) rfl rfl rfl rfl rfl ⟨Nat.le_of_ble_eq_true rfl, Nat.le_of_ble_eq_true rfl, Nat.le_of_ble_eq_true rfl, Nat.le_of_ble_eq_true rfl, Nat.le_of_ble_eq_true rfl⟩ rfl (c_Rd_skipP hR hp) ?_
  rintro v1 w9 ⟨hv1, q, hw9, hq1, hq2, hq3, hq4⟩
  rw [hv1, hw9]
  clear hv1 hw9 v1 w9
  dsimp only [Option.toList, List.cons_append, List.nil_append, List.append_nil]
  refine wp_aload_n (pc' := 5) rfl rfl rfl (by omega) ?_
  refine wp_call (pc' := 8) rfl rfl rfl rfl rfl ⟨Nat.le_of_ble_eq_true rfl, Nat.le_of_ble_eq_true rfl, Nat.le_of_ble_eq_true rfl, Nat.le_of_ble_eq_true rfl, Nat.le_of_ble_eq_true rfl⟩ rfl (c_Rd_atP hR) ?_
  rintro v1 w9 ⟨hw9, ⟨hv1, hat⟩ | ⟨hv1, hat⟩⟩
  · skip
    rw [hv1, hw9]
    clear hv1 hw9 v1 w9
    dsimp only [Option.toList, List.cons_append, List.nil_append, List.append_nil]
    refine wp_if_ne (pc' := 11) (pt := 20) rfl rfl rfl (fun q_1 => ?_) (fun q_1 => absurd (by decide) q_1)
    refine wp_iconst (a := 0) (pc' := 21) rfl rfl rfl ?_
    refine wp_ret rfl rfl rfl ?_
    first
    | (exfalso; omega)
    | (have hh : hE (w pa) z q = q := by
         unfold hE bA
         first
         | (rw [if_neg (show ¬ q < z by omega), if_pos (by decide)])
         | (rw [if_pos (show q < z by omega), if_pos (by omega)])
       exact ⟨q, hq1, hq2, hq3, hq4, Or.inl ⟨rfl, by omega, by rw [hh]⟩⟩)
  · skip
    rw [hv1, hw9]
    clear hv1 hw9 v1 w9
    dsimp only [Option.toList, List.cons_append, List.nil_append, List.append_nil]
    refine wp_if_ne (pc' := 11) (pt := 20) rfl rfl rfl (fun q_2 => absurd q_2 (by decide)) (fun q_2 => ?_)
    refine wp_aload_n (pc' := 12) rfl rfl rfl (by omega) ?_
    refine wp_call (pc' := 15) rfl rfl rfl rfl rfl ⟨Nat.le_of_ble_eq_true rfl, Nat.le_of_ble_eq_true rfl, Nat.le_of_ble_eq_true rfl, Nat.le_of_ble_eq_true rfl, Nat.le_of_ble_eq_true rfl⟩ rfl (c_Rd_signP hR (by omega)) ?_
    intro v1 w9 hq1
    rw [hq1.1, hq1.2]
    clear hq1 v1 w9
    dsimp only [Option.toList, List.cons_append, List.nil_append, List.append_nil]
    refine wp_bipush (a := 108) (pc' := 17) rfl rfl rfl ?_
    refine wp_icmp_eq (pc' := 20) (pt := 22) rfl rfl rfl (fun q_3 => ?_) (fun q_3 => ?_)
    · skip
      refine wp_aload_n (pc' := 23) rfl rfl rfl (by omega) ?_
      refine wp_dupR (pc' := 24) rfl rfl ?_
      refine wp_getI (ci := 6) (k0 := 1) (pc' := 27) rfl rfl (by decide) (by first | assumption | rfl) ?_
      rw [up_eq]
      refine wp_iconst (a := 1) (pc' := 28) rfl rfl rfl ?_
      refine wp_iadd (pc' := 29) rfl rfl (by first | exact w32_id (by omega) (by omega) | rfl) ?_
      refine wp_putI (ci := 6) (k0 := 1) (pc' := 32) rfl rfl (by decide) (by first | assumption | rfl) ?_
      rw [up_up]
      refine wp_aload_n (pc' := 33) rfl rfl rfl (by omega) ?_
      refine wp_iconst (a := 3) (pc' := 34) rfl rfl rfl ?_
      refine wp_iconst (a := 5) (pc' := 35) rfl rfl rfl ?_
      refine wp_call (pc' := 38) rfl rfl rfl rfl rfl ⟨Nat.le_of_ble_eq_true rfl, Nat.le_of_ble_eq_true rfl, Nat.le_of_ble_eq_true rfl, Nat.le_of_ble_eq_true rfl, Nat.le_of_ble_eq_true rfl⟩ rfl (c_Rd_figP (P := q + 1) (lo := 3) (hi := 5) hR (by omega) (by omega) (by omega)) ?_
      rintro v1 w9 ⟨hv1, hw9⟩
      rcases Classical.em (fg (w pa) z (q + 1) (3) (5) = -1) with hf1 | hf1
      · skip
        rw [if_pos hf1] at hw9
        rw [hv1, hw9, hf1]
        clear hv1 hw9 v1 w9
        dsimp only [Option.toList, List.cons_append, List.nil_append, List.append_nil]
        refine wp_istore_n (pc' := 39) rfl rfl (Nat.le_of_ble_eq_true rfl) rfl ?_
        dsimp only [lset, lset2, List.set, List.getElem?_cons_zero, List.getElem?_cons_succ]
        refine wp_iload_n (pc' := 40) rfl rfl rfl ?_
        refine wp_iconst (a := -1) (pc' := 41) rfl rfl rfl ?_
        refine wp_icmp_ne (pc' := 44) (pt := 48) rfl rfl rfl (fun q_4 => absurd q_4 (by decide)) (fun q_4 => ?_)
        refine wp_iconst (a := -1) (pc' := 45) rfl rfl rfl ?_
        refine wp_goto (pc' := 54) rfl rfl ?_
        refine wp_istore_n (pc' := 55) rfl rfl (Nat.le_of_ble_eq_true rfl) rfl ?_
        dsimp only [lset, lset2, List.set, List.getElem?_cons_zero, List.getElem?_cons_succ]
        refine wp_iload_n (pc' := 56) rfl rfl rfl ?_
        refine wp_iconst (a := -1) (pc' := 57) rfl rfl rfl ?_
        refine wp_icmp_ne (pc' := 60) (pt := 64) rfl rfl rfl (fun q_5 => absurd q_5 (by decide)) (fun q_5 => ?_)
        refine wp_iconst (a := -1) (pc' := 61) rfl rfl rfl ?_
        refine wp_goto (pc' := 72) rfl rfl ?_
        refine wp_istore (pc' := 74) rfl rfl (Nat.le_of_ble_eq_true rfl) rfl ?_
        dsimp only [lset, lset2, List.set, List.getElem?_cons_zero, List.getElem?_cons_succ]
        refine wp_iload (pc' := 76) rfl rfl rfl ?_
        refine wp_iconst (a := -1) (pc' := 77) rfl rfl rfl ?_
        refine wp_icmp_ne (pc' := 80) (pt := 84) rfl rfl rfl (fun q_6 => absurd q_6 (by decide)) (fun q_6 => ?_)
        refine wp_iconst (a := -1) (pc' := 81) rfl rfl rfl ?_
        refine wp_goto (pc' := 92) rfl rfl ?_
        refine wp_istore (pc' := 94) rfl rfl (Nat.le_of_ble_eq_true rfl) rfl ?_
        dsimp only [lset, lset2, List.set, List.getElem?_cons_zero, List.getElem?_cons_succ]
        refine wp_iload (pc' := 96) rfl rfl rfl ?_
        refine wp_iconst (a := -1) (pc' := 97) rfl rfl rfl ?_
        refine wp_icmp_ne (pc' := 100) (pt := 102) rfl rfl rfl (fun q_7 => absurd q_7 (by decide)) (fun q_7 => ?_)
        refine wp_iconst (a := 0) (pc' := 101) rfl rfl rfl ?_
        refine wp_ret rfl rfl rfl ?_
        have hh : hE (w pa) z q = q + 1 := by
          unfold hE bA
          rw [if_pos (show q < z by omega), if_neg (by omega), if_pos hf1]
        exact ⟨q, hq1, hq2, hq3, hq4, Or.inl ⟨rfl, by omega, by rw [hh]⟩⟩
      · skip
        rw [if_neg hf1] at hw9
        rw [hv1, hw9]
        clear hv1 hw9 v1 w9
        rw [show (q + 1 : Int) + 1 = q + 2 by omega]
        have hfl1 := fg_lt (by omega) hf1
        dsimp only [Option.toList, List.cons_append, List.nil_append, List.append_nil]
        refine wp_istore_n (pc' := 39) rfl rfl (Nat.le_of_ble_eq_true rfl) rfl ?_
        dsimp only [lset, lset2, List.set, List.getElem?_cons_zero, List.getElem?_cons_succ]
        refine wp_iload_n (pc' := 40) rfl rfl rfl ?_
        refine wp_iconst (a := -1) (pc' := 41) rfl rfl rfl ?_
        refine wp_icmp_ne (pc' := 44) (pt := 48) rfl rfl rfl (fun q_8 => ?_) (fun q_8 => ?_)
        · skip
          refine wp_aload_n (pc' := 49) rfl rfl rfl (by omega) ?_
          refine wp_iconst (a := 3) (pc' := 50) rfl rfl rfl ?_
          refine wp_iconst (a := 5) (pc' := 51) rfl rfl rfl ?_
          refine wp_call (pc' := 54) rfl rfl rfl rfl rfl ⟨Nat.le_of_ble_eq_true rfl, Nat.le_of_ble_eq_true rfl, Nat.le_of_ble_eq_true rfl, Nat.le_of_ble_eq_true rfl, Nat.le_of_ble_eq_true rfl⟩ rfl (c_Rd_figP (P := q + 2) (lo := 3) (hi := 5) hR (by omega) (by omega) (by omega)) ?_
          rintro v1 w9 ⟨hv1, hw9⟩
          rcases Classical.em (fg (w pa) z (q + 2) (3) (5) = -1) with hf2 | hf2
          · skip
            rw [if_pos hf2] at hw9
            rw [hv1, hw9, hf2]
            clear hv1 hw9 v1 w9
            dsimp only [Option.toList, List.cons_append, List.nil_append, List.append_nil]
            refine wp_istore_n (pc' := 55) rfl rfl (Nat.le_of_ble_eq_true rfl) rfl ?_
            dsimp only [lset, lset2, List.set, List.getElem?_cons_zero, List.getElem?_cons_succ]
            refine wp_iload_n (pc' := 56) rfl rfl rfl ?_
            refine wp_iconst (a := -1) (pc' := 57) rfl rfl rfl ?_
            refine wp_icmp_ne (pc' := 60) (pt := 64) rfl rfl rfl (fun q_9 => absurd q_9 (by decide)) (fun q_9 => ?_)
            refine wp_iconst (a := -1) (pc' := 61) rfl rfl rfl ?_
            refine wp_goto (pc' := 72) rfl rfl ?_
            refine wp_istore (pc' := 74) rfl rfl (Nat.le_of_ble_eq_true rfl) rfl ?_
            dsimp only [lset, lset2, List.set, List.getElem?_cons_zero, List.getElem?_cons_succ]
            refine wp_iload (pc' := 76) rfl rfl rfl ?_
            refine wp_iconst (a := -1) (pc' := 77) rfl rfl rfl ?_
            refine wp_icmp_ne (pc' := 80) (pt := 84) rfl rfl rfl (fun q_10 => absurd q_10 (by decide)) (fun q_10 => ?_)
            refine wp_iconst (a := -1) (pc' := 81) rfl rfl rfl ?_
            refine wp_goto (pc' := 92) rfl rfl ?_
            refine wp_istore (pc' := 94) rfl rfl (Nat.le_of_ble_eq_true rfl) rfl ?_
            dsimp only [lset, lset2, List.set, List.getElem?_cons_zero, List.getElem?_cons_succ]
            refine wp_iload (pc' := 96) rfl rfl rfl ?_
            refine wp_iconst (a := -1) (pc' := 97) rfl rfl rfl ?_
            refine wp_icmp_ne (pc' := 100) (pt := 102) rfl rfl rfl (fun q_11 => absurd q_11 (by decide)) (fun q_11 => ?_)
            refine wp_iconst (a := 0) (pc' := 101) rfl rfl rfl ?_
            refine wp_ret rfl rfl rfl ?_
            have hh : hE (w pa) z q = q + 2 := by
              unfold hE bA
              rw [if_pos (show q < z by omega), if_neg (by omega), if_neg hf1, if_pos hf2]
            exact ⟨q, hq1, hq2, hq3, hq4, Or.inl ⟨rfl, by omega, by rw [hh]⟩⟩
          · skip
            rw [if_neg hf2] at hw9
            rw [hv1, hw9]
            clear hv1 hw9 v1 w9
            rw [show (q + 2 : Int) + 1 = q + 3 by omega]
            have hfl2 := fg_lt (by omega) hf2
            dsimp only [Option.toList, List.cons_append, List.nil_append, List.append_nil]
            refine wp_istore_n (pc' := 55) rfl rfl (Nat.le_of_ble_eq_true rfl) rfl ?_
            dsimp only [lset, lset2, List.set, List.getElem?_cons_zero, List.getElem?_cons_succ]
            refine wp_iload_n (pc' := 56) rfl rfl rfl ?_
            refine wp_iconst (a := -1) (pc' := 57) rfl rfl rfl ?_
            refine wp_icmp_ne (pc' := 60) (pt := 64) rfl rfl rfl (fun q_12 => ?_) (fun q_12 => ?_)
            · skip
              refine wp_aload_n (pc' := 65) rfl rfl rfl (by omega) ?_
              refine wp_iconst (a := 0) (pc' := 66) rfl rfl rfl ?_
              refine wp_iload_n (pc' := 67) rfl rfl rfl ?_
              refine wp_iconst (a := 1) (pc' := 68) rfl rfl rfl ?_
              refine wp_isub (pc' := 69) rfl rfl (by first | exact w32_id (by omega) (by omega) | rfl) ?_
              refine wp_call (pc' := 72) rfl rfl rfl rfl rfl ⟨Nat.le_of_ble_eq_true rfl, Nat.le_of_ble_eq_true rfl, Nat.le_of_ble_eq_true rfl, Nat.le_of_ble_eq_true rfl, Nat.le_of_ble_eq_true rfl⟩ rfl (c_Rd_figP (P := q + 3) (lo := 0) (hi := fg (w pa) z (q + 1) 3 5 - 1) hR (by omega) (by omega) (by omega)) ?_
              rintro v1 w9 ⟨hv1, hw9⟩
              rcases Classical.em (fg (w pa) z (q + 3) (0) (fg (w pa) z (q + 1) 3 5 - 1) = -1) with hf3 | hf3
              · skip
                rw [if_pos hf3] at hw9
                rw [hv1, hw9, hf3]
                clear hv1 hw9 v1 w9
                dsimp only [Option.toList, List.cons_append, List.nil_append, List.append_nil]
                refine wp_istore (pc' := 74) rfl rfl (Nat.le_of_ble_eq_true rfl) rfl ?_
                dsimp only [lset, lset2, List.set, List.getElem?_cons_zero, List.getElem?_cons_succ]
                refine wp_iload (pc' := 76) rfl rfl rfl ?_
                refine wp_iconst (a := -1) (pc' := 77) rfl rfl rfl ?_
                refine wp_icmp_ne (pc' := 80) (pt := 84) rfl rfl rfl (fun q_13 => absurd q_13 (by decide)) (fun q_13 => ?_)
                refine wp_iconst (a := -1) (pc' := 81) rfl rfl rfl ?_
                refine wp_goto (pc' := 92) rfl rfl ?_
                refine wp_istore (pc' := 94) rfl rfl (Nat.le_of_ble_eq_true rfl) rfl ?_
                dsimp only [lset, lset2, List.set, List.getElem?_cons_zero, List.getElem?_cons_succ]
                refine wp_iload (pc' := 96) rfl rfl rfl ?_
                refine wp_iconst (a := -1) (pc' := 97) rfl rfl rfl ?_
                refine wp_icmp_ne (pc' := 100) (pt := 102) rfl rfl rfl (fun q_14 => absurd q_14 (by decide)) (fun q_14 => ?_)
                refine wp_iconst (a := 0) (pc' := 101) rfl rfl rfl ?_
                refine wp_ret rfl rfl rfl ?_
                have hh : hE (w pa) z q = q + 3 := by
                  unfold hE bA
                  rw [if_pos (show q < z by omega), if_neg (by omega), if_neg hf1, if_neg hf2, if_pos hf3]
                exact ⟨q, hq1, hq2, hq3, hq4, Or.inl ⟨rfl, by omega, by rw [hh]⟩⟩
              · skip
                rw [if_neg hf3] at hw9
                rw [hv1, hw9]
                clear hv1 hw9 v1 w9
                rw [show (q + 3 : Int) + 1 = q + 4 by omega]
                have hfl3 := fg_lt (by omega) hf3
                dsimp only [Option.toList, List.cons_append, List.nil_append, List.append_nil]
                refine wp_istore (pc' := 74) rfl rfl (Nat.le_of_ble_eq_true rfl) rfl ?_
                dsimp only [lset, lset2, List.set, List.getElem?_cons_zero, List.getElem?_cons_succ]
                refine wp_iload (pc' := 76) rfl rfl rfl ?_
                refine wp_iconst (a := -1) (pc' := 77) rfl rfl rfl ?_
                refine wp_icmp_ne (pc' := 80) (pt := 84) rfl rfl rfl (fun q_15 => ?_) (fun q_15 => ?_)
                · skip
                  refine wp_aload_n (pc' := 85) rfl rfl rfl (by omega) ?_
                  refine wp_iconst (a := 0) (pc' := 86) rfl rfl rfl ?_
                  refine wp_iload_n (pc' := 87) rfl rfl rfl ?_
                  refine wp_iconst (a := 1) (pc' := 88) rfl rfl rfl ?_
                  refine wp_isub (pc' := 89) rfl rfl (by first | exact w32_id (by omega) (by omega) | rfl) ?_
                  refine wp_call (pc' := 92) rfl rfl rfl rfl rfl ⟨Nat.le_of_ble_eq_true rfl, Nat.le_of_ble_eq_true rfl, Nat.le_of_ble_eq_true rfl, Nat.le_of_ble_eq_true rfl, Nat.le_of_ble_eq_true rfl⟩ rfl (c_Rd_figP (P := q + 4) (lo := 0) (hi := fg (w pa) z (q + 2) 3 5 - 1) hR (by omega) (by omega) (by omega)) ?_
                  rintro v1 w9 ⟨hv1, hw9⟩
                  rcases Classical.em (fg (w pa) z (q + 4) (0) (fg (w pa) z (q + 2) 3 5 - 1) = -1) with hf4 | hf4
                  · skip
                    rw [if_pos hf4] at hw9
                    rw [hv1, hw9, hf4]
                    clear hv1 hw9 v1 w9
                    dsimp only [Option.toList, List.cons_append, List.nil_append, List.append_nil]
                    refine wp_istore (pc' := 94) rfl rfl (Nat.le_of_ble_eq_true rfl) rfl ?_
                    dsimp only [lset, lset2, List.set, List.getElem?_cons_zero, List.getElem?_cons_succ]
                    refine wp_iload (pc' := 96) rfl rfl rfl ?_
                    refine wp_iconst (a := -1) (pc' := 97) rfl rfl rfl ?_
                    refine wp_icmp_ne (pc' := 100) (pt := 102) rfl rfl rfl (fun q_16 => absurd q_16 (by decide)) (fun q_16 => ?_)
                    refine wp_iconst (a := 0) (pc' := 101) rfl rfl rfl ?_
                    refine wp_ret rfl rfl rfl ?_
                    have hh : hE (w pa) z q = q + 4 := by
                      unfold hE bA
                      rw [if_pos (show q < z by omega), if_neg (by omega), if_neg hf1, if_neg hf2, if_neg hf3, if_pos hf4]
                    exact ⟨q, hq1, hq2, hq3, hq4, Or.inl ⟨rfl, by omega, by rw [hh]⟩⟩
                  · skip
                    rw [if_neg hf4] at hw9
                    rw [hv1, hw9]
                    clear hv1 hw9 v1 w9
                    rw [show (q + 4 : Int) + 1 = q + 5 by omega]
                    have hfl4 := fg_lt (by omega) hf4
                    dsimp only [Option.toList, List.cons_append, List.nil_append, List.append_nil]
                    refine wp_istore (pc' := 94) rfl rfl (Nat.le_of_ble_eq_true rfl) rfl ?_
                    dsimp only [lset, lset2, List.set, List.getElem?_cons_zero, List.getElem?_cons_succ]
                    refine wp_iload (pc' := 96) rfl rfl rfl ?_
                    refine wp_iconst (a := -1) (pc' := 97) rfl rfl rfl ?_
                    refine wp_icmp_ne (pc' := 100) (pt := 102) rfl rfl rfl (fun q_17 => ?_) (fun q_17 => ?_)
                    · skip
                      have hmm := mul_bd (show 0 ≤ fg (w pa) z (q + 1) 3 5 by omega) (show fg (w pa) z (q + 1) 3 5 ≤ 5 by omega) (show 0 ≤ fg (w pa) z (q + 4) 0 (fg (w pa) z (q + 2) 3 5 - 1) by omega) (show fg (w pa) z (q + 4) 0 (fg (w pa) z (q + 2) 3 5 - 1) ≤ 4 by omega)
                      refine wp_aload_n (pc' := 103) rfl rfl rfl (by decide) ?_
                      refine wp_iload_n (pc' := 104) rfl rfl rfl ?_
                      refine wp_putI (ci := 3) (k0 := 0) (pc' := 107) rfl rfl (by decide) (by first | assumption | rfl) ?_
                      refine wp_aload_n (pc' := 108) rfl rfl rfl (by decide) ?_
                      refine wp_iload_n (pc' := 109) rfl rfl rfl ?_
                      refine wp_putI (ci := 3) (k0 := 1) (pc' := 112) rfl rfl (by decide) (by first | assumption | rfl) ?_
                      refine wp_aload_n (pc' := 113) rfl rfl rfl (by decide) ?_
                      refine wp_iload_n (pc' := 114) rfl rfl rfl ?_
                      refine wp_iload (pc' := 116) rfl rfl rfl ?_
                      refine wp_imul (pc' := 117) rfl rfl (by first | exact w32_id (by omega) (by omega) | rfl) ?_
                      refine wp_iload (pc' := 119) rfl rfl rfl ?_
                      refine wp_iadd (pc' := 120) rfl rfl (by first | exact w32_id (by omega) (by omega) | rfl) ?_
                      refine wp_putI (ci := 3) (k0 := 3) (pc' := 123) rfl rfl (by decide) (by first | assumption | rfl) ?_
                      refine wp_iconst (a := 1) (pc' := 124) rfl rfl rfl ?_
                      refine wp_ret rfl rfl rfl ?_
                      have hh : hE (w pa) z q = q + 5 := by
                        unfold hE bA
                        rw [if_pos (show q < z by omega), if_neg (by omega), if_neg hf1, if_neg hf2, if_neg hf3, if_neg hf4]
                      exact ⟨q, hq1, hq2, hq3, hq4, Or.inr ⟨rfl, hh, by omega, hfl1.2, hfl2.2, hfl3.2, hfl4.2, rfl⟩⟩
                    · skip
                      refine wp_iconst (a := 0) (pc' := 101) rfl rfl rfl ?_
                      refine wp_ret rfl rfl rfl ?_
                      exfalso; omega
                · skip
                  refine wp_iconst (a := -1) (pc' := 81) rfl rfl rfl ?_
                  refine wp_goto (pc' := 92) rfl rfl ?_
                  refine wp_istore (pc' := 94) rfl rfl (Nat.le_of_ble_eq_true rfl) rfl ?_
                  dsimp only [lset, lset2, List.set, List.getElem?_cons_zero, List.getElem?_cons_succ]
                  refine wp_iload (pc' := 96) rfl rfl rfl ?_
                  refine wp_iconst (a := -1) (pc' := 97) rfl rfl rfl ?_
                  refine wp_icmp_ne (pc' := 100) (pt := 102) rfl rfl rfl (fun q_18 => absurd q_18 (by decide)) (fun q_18 => ?_)
                  refine wp_iconst (a := 0) (pc' := 101) rfl rfl rfl ?_
                  refine wp_ret rfl rfl rfl ?_
                  first
                  | (exfalso; omega)
                  | (have hh : hE (w pa) z q = q := by
                       unfold hE bA
                       first
                       | (rw [if_neg (show ¬ q < z by omega), if_pos (by decide)])
                       | (rw [if_pos (show q < z by omega), if_pos (by omega)])
                     exact ⟨q, hq1, hq2, hq3, hq4, Or.inl ⟨rfl, by omega, by rw [hh]⟩⟩)
            · skip
              refine wp_iconst (a := -1) (pc' := 61) rfl rfl rfl ?_
              refine wp_goto (pc' := 72) rfl rfl ?_
              refine wp_istore (pc' := 74) rfl rfl (Nat.le_of_ble_eq_true rfl) rfl ?_
              dsimp only [lset, lset2, List.set, List.getElem?_cons_zero, List.getElem?_cons_succ]
              refine wp_iload (pc' := 76) rfl rfl rfl ?_
              refine wp_iconst (a := -1) (pc' := 77) rfl rfl rfl ?_
              refine wp_icmp_ne (pc' := 80) (pt := 84) rfl rfl rfl (fun q_19 => absurd q_19 (by decide)) (fun q_19 => ?_)
              refine wp_iconst (a := -1) (pc' := 81) rfl rfl rfl ?_
              refine wp_goto (pc' := 92) rfl rfl ?_
              refine wp_istore (pc' := 94) rfl rfl (Nat.le_of_ble_eq_true rfl) rfl ?_
              dsimp only [lset, lset2, List.set, List.getElem?_cons_zero, List.getElem?_cons_succ]
              refine wp_iload (pc' := 96) rfl rfl rfl ?_
              refine wp_iconst (a := -1) (pc' := 97) rfl rfl rfl ?_
              refine wp_icmp_ne (pc' := 100) (pt := 102) rfl rfl rfl (fun q_20 => absurd q_20 (by decide)) (fun q_20 => ?_)
              refine wp_iconst (a := 0) (pc' := 101) rfl rfl rfl ?_
              refine wp_ret rfl rfl rfl ?_
              first
              | (exfalso; omega)
              | (have hh : hE (w pa) z q = q := by
                   unfold hE bA
                   first
                   | (rw [if_neg (show ¬ q < z by omega), if_pos (by decide)])
                   | (rw [if_pos (show q < z by omega), if_pos (by omega)])
                 exact ⟨q, hq1, hq2, hq3, hq4, Or.inl ⟨rfl, by omega, by rw [hh]⟩⟩)
        · skip
          refine wp_iconst (a := -1) (pc' := 45) rfl rfl rfl ?_
          refine wp_goto (pc' := 54) rfl rfl ?_
          refine wp_istore_n (pc' := 55) rfl rfl (Nat.le_of_ble_eq_true rfl) rfl ?_
          dsimp only [lset, lset2, List.set, List.getElem?_cons_zero, List.getElem?_cons_succ]
          refine wp_iload_n (pc' := 56) rfl rfl rfl ?_
          refine wp_iconst (a := -1) (pc' := 57) rfl rfl rfl ?_
          refine wp_icmp_ne (pc' := 60) (pt := 64) rfl rfl rfl (fun q_21 => absurd q_21 (by decide)) (fun q_21 => ?_)
          refine wp_iconst (a := -1) (pc' := 61) rfl rfl rfl ?_
          refine wp_goto (pc' := 72) rfl rfl ?_
          refine wp_istore (pc' := 74) rfl rfl (Nat.le_of_ble_eq_true rfl) rfl ?_
          dsimp only [lset, lset2, List.set, List.getElem?_cons_zero, List.getElem?_cons_succ]
          refine wp_iload (pc' := 76) rfl rfl rfl ?_
          refine wp_iconst (a := -1) (pc' := 77) rfl rfl rfl ?_
          refine wp_icmp_ne (pc' := 80) (pt := 84) rfl rfl rfl (fun q_22 => absurd q_22 (by decide)) (fun q_22 => ?_)
          refine wp_iconst (a := -1) (pc' := 81) rfl rfl rfl ?_
          refine wp_goto (pc' := 92) rfl rfl ?_
          refine wp_istore (pc' := 94) rfl rfl (Nat.le_of_ble_eq_true rfl) rfl ?_
          dsimp only [lset, lset2, List.set, List.getElem?_cons_zero, List.getElem?_cons_succ]
          refine wp_iload (pc' := 96) rfl rfl rfl ?_
          refine wp_iconst (a := -1) (pc' := 97) rfl rfl rfl ?_
          refine wp_icmp_ne (pc' := 100) (pt := 102) rfl rfl rfl (fun q_23 => absurd q_23 (by decide)) (fun q_23 => ?_)
          refine wp_iconst (a := 0) (pc' := 101) rfl rfl rfl ?_
          refine wp_ret rfl rfl rfl ?_
          first
          | (exfalso; omega)
          | (have hh : hE (w pa) z q = q := by
               unfold hE bA
               first
               | (rw [if_neg (show ¬ q < z by omega), if_pos (by decide)])
               | (rw [if_pos (show q < z by omega), if_pos (by omega)])
             exact ⟨q, hq1, hq2, hq3, hq4, Or.inl ⟨rfl, by omega, by rw [hh]⟩⟩)
    · skip
      refine wp_iconst (a := 0) (pc' := 21) rfl rfl rfl ?_
      refine wp_ret rfl rfl rfl ?_
      first
      | (exfalso; omega)
      | (have hh : hE (w pa) z q = q := by
           unfold hE bA
           first
           | (rw [if_neg (show ¬ q < z by omega), if_pos (by decide)])
           | (rw [if_pos (show q < z by omega), if_pos (by omega)])
         exact ⟨q, hq1, hq2, hq3, hq4, Or.inl ⟨rfl, by omega, by rw [hh]⟩⟩)
set_option maxRecDepth 20000 in
set_option maxHeartbeats 4000000 in
theorem c_Land_settle12 {w : Hp} {d : Nat} {k c h : Int} (hT : Stc w) (hn : 0 ≤ w 12 2 ∧ w 12 2 < 6) : WP SH (d + 0) 25 0 [some (vR 12), some (vI k), some (vI c), some (vI h)] [] w (fun v w' => v = none ∧ w' = up (up (up (up w 13 (w 12 2) k) 14 (w 12 2) c) 15 (w 12 2) h) 12 2 (w 12 2 + 1)) := by
  refine wp_aload_n (pc' := 1) rfl rfl rfl (by decide) ?_
  refine wp_getI (ci := 3) (k0 := 2) (pc' := 4) rfl rfl (by decide) (by first | assumption | rfl) ?_
  refine wp_bipush (a := 6) (pc' := 6) rfl rfl rfl ?_
  refine wp_icmp_ge (pc' := 9) (pt := 49) rfl rfl rfl (fun q_1 => ?_) (fun q_1 => ?_)
  · skip
    refine wp_ret rfl rfl rfl ?_
    first
    | exact ⟨rfl, rfl⟩
    | (exfalso; omega)
  · skip
    refine wp_aload_n (pc' := 10) rfl rfl rfl (by decide) ?_
    refine wp_getR (r' := 13) (ci := 3) (k0 := 7) (pc' := 13) rfl rfl (by decide) (by first | assumption | rfl) (hT.get 31 rfl) ?_
    refine wp_aload_n (pc' := 14) rfl rfl rfl (by decide) ?_
    refine wp_getI (ci := 3) (k0 := 2) (pc' := 17) rfl rfl (by decide) (by first | assumption | rfl) ?_
    refine wp_iload_n (pc' := 18) rfl rfl rfl ?_
    refine wp_iastore (pc' := 19) rfl rfl (by first | assumption | rfl) (by omega) ?_
    refine wp_stc (hT.putA (by decide)) (fun hT => ?_)
    have hk1 : (up w 13 (w 12 2) k) 12 2 = w 12 2 := by rw [up_ne (by decide)]
    refine wp_aload_n (pc' := 20) rfl rfl rfl (by decide) ?_
    refine wp_getR (r' := 14) (ci := 3) (k0 := 8) (pc' := 23) rfl rfl (by decide) (by first | assumption | rfl) (hT.get 32 rfl) ?_
    refine wp_aload_n (pc' := 24) rfl rfl rfl (by decide) ?_
    refine wp_getI (ci := 3) (k0 := 2) (pc' := 27) rfl rfl (by decide) (by first | assumption | rfl) ?_
    rw [hk1]
    refine wp_iload_n (pc' := 28) rfl rfl rfl ?_
    refine wp_iastore (pc' := 29) rfl rfl (by first | assumption | rfl) (by omega) ?_
    refine wp_stc (hT.putA (by decide)) (fun hT => ?_)
    have hk2 : (up (up w 13 (w 12 2) k) 14 (w 12 2) c) 12 2 = w 12 2 := by rw [up_ne (by decide), up_ne (by decide)]
    refine wp_aload_n (pc' := 30) rfl rfl rfl (by decide) ?_
    refine wp_getR (r' := 15) (ci := 3) (k0 := 9) (pc' := 33) rfl rfl (by decide) (by first | assumption | rfl) (hT.get 33 rfl) ?_
    refine wp_aload_n (pc' := 34) rfl rfl rfl (by decide) ?_
    refine wp_getI (ci := 3) (k0 := 2) (pc' := 37) rfl rfl (by decide) (by first | assumption | rfl) ?_
    rw [hk2]
    refine wp_iload_n (pc' := 38) rfl rfl rfl ?_
    refine wp_iastore (pc' := 39) rfl rfl (by first | assumption | rfl) (by omega) ?_
    have hk3 : (up (up (up w 13 (w 12 2) k) 14 (w 12 2) c) 15 (w 12 2) h) 12 2 = w 12 2 := by rw [up_ne (by decide), up_ne (by decide), up_ne (by decide)]
    refine wp_aload_n (pc' := 40) rfl rfl rfl (by decide) ?_
    refine wp_dupR (pc' := 41) rfl rfl ?_
    refine wp_getI (ci := 3) (k0 := 2) (pc' := 44) rfl rfl (by decide) (by first | assumption | rfl) ?_
    rw [hk3]
    refine wp_iconst (a := 1) (pc' := 45) rfl rfl rfl ?_
    refine wp_iadd (pc' := 46) rfl rfl (by first | exact w32_id (by omega) (by omega) | rfl) ?_
    refine wp_putI (ci := 3) (k0 := 2) (pc' := 49) rfl rfl (by decide) (by first | assumption | rfl) ?_
    refine wp_ret rfl rfl rfl ?_
    first
    | exact ⟨rfl, rfl⟩
    | (exfalso; omega)
set_option maxRecDepth 20000 in
set_option maxHeartbeats 4000000 in
theorem c_Rd_one {w : Hp} {d : Nat} {s pa z p : Int} (hT : Stc w) (hr : ROw w) (hR : Rd w s pa z) (hp : 0 ≤ p ∧ p ≤ z) (hc : CL (w 12 0) (w 12 1)) (hn : 0 ≤ w 12 2 ∧ w 12 2 < 6) : WP SH (d + 2) 63 0 [some (vR 22), some (vR 12), none, none, none, none] [] (up w 22 1 p) (fun v w' => (v = some (vI 0) ∧ oE (w pa) z (w 12 0) (w 12 1) p < p + 4 ∧ w' = up w 22 1 (oE (w pa) z (w 12 0) (w 12 1) p)) ∨ (v = some (vI 1) ∧ oE (w pa) z (w 12 0) (w 12 1) p = p + 4 ∧ p + 4 ≤ z ∧ kd (bA (w pa) z p) ≠ -1 ∧ (0 ≤ fg (w pa) z (p + 1) 0 (w 12 0 - 1) ∧ fg (w pa) z (p + 1) 0 (w 12 0 - 1) ≤ w 12 0 - 1) ∧ (0 ≤ fg (w pa) z (p + 2) 0 (w 12 1 - 1) ∧ fg (w pa) z (p + 2) 0 (w 12 1 - 1) ≤ w 12 1 - 1) ∧ (1 ≤ fg (w pa) z (p + 3) 1 9 ∧ fg (w pa) z (p + 3) 1 9 ≤ 9) ∧ w' = up (up (up (up (up w 22 1 (p + 4)) 13 (w 12 2) (kd (bA (w pa) z p))) 14 (w 12 2) (w 12 0 * (fg (w pa) z (p + 2) 0 (w 12 1 - 1)) + (fg (w pa) z (p + 1) 0 (w 12 0 - 1)))) 15 (w 12 2) (fg (w pa) z (p + 3) 1 9)) 12 2 (w 12 2 + 1))) := by
  obtain ⟨hsrc, ⟨hs7, hpn, hsp, hs0, hp0, hne, hnn⟩, hsz, hz, hby, hsr, hpr9⟩ := id hR
  obtain ⟨hc1, hc2, hc3, hc4⟩ := id hc
  refine wp_aload_n (pc' := 1) rfl rfl rfl (by omega) ?_
  refine wp_call (pc' := 4) rfl rfl rfl rfl rfl ⟨Nat.le_of_ble_eq_true rfl, Nat.le_of_ble_eq_true rfl, Nat.le_of_ble_eq_true rfl, Nat.le_of_ble_eq_true rfl, Nat.le_of_ble_eq_true rfl⟩ rfl (c_Rd_atP hR) ?_
  rintro v1 w9 ⟨hw9, ⟨hv1, hat⟩ | ⟨hv1, hat⟩⟩
  · skip
    rw [hv1, hw9]
    clear hv1 hw9 v1 w9
    dsimp only [Option.toList, List.cons_append, List.nil_append, List.append_nil]
    refine wp_if_eq (pc' := 7) (pt := 11) rfl rfl rfl (fun q_1 => absurd q_1 (by decide)) (fun q_1 => ?_)
    refine wp_iconst (a := -1) (pc' := 8) rfl rfl rfl ?_
    refine wp_goto (pc' := 18) rfl rfl ?_
    refine wp_istore_n (pc' := 19) rfl rfl (Nat.le_of_ble_eq_true rfl) rfl ?_
    dsimp only [lset, lset2, List.set, List.getElem?_cons_zero, List.getElem?_cons_succ]
    refine wp_iload_n (pc' := 20) rfl rfl rfl ?_
    refine wp_iconst (a := -1) (pc' := 21) rfl rfl rfl ?_
    refine wp_icmp_ne (pc' := 24) (pt := 26) rfl rfl rfl (fun q_2 => absurd q_2 (by decide)) (fun q_2 => ?_)
    refine wp_iconst (a := 0) (pc' := 25) rfl rfl rfl ?_
    refine wp_ret rfl rfl rfl ?_
    first
    | (exfalso; omega)
    | (have hh : oE (w pa) z (w 12 0) (w 12 1) p = p := by
         unfold oE bA
         first
         | (rw [if_neg (show ¬ p < z by omega), if_pos (by decide)])
         | (rw [if_pos (show p < z by omega), if_pos hk0])
       exact Or.inl ⟨rfl, by omega, by rw [hh]⟩)
  · skip
    rw [hv1, hw9]
    clear hv1 hw9 v1 w9
    dsimp only [Option.toList, List.cons_append, List.nil_append, List.append_nil]
    refine wp_if_eq (pc' := 7) (pt := 11) rfl rfl rfl (fun q_3 => ?_) (fun q_3 => absurd (by decide) q_3)
    refine wp_aload_n (pc' := 12) rfl rfl rfl (by omega) ?_
    refine wp_call (pc' := 15) rfl rfl rfl rfl rfl ⟨Nat.le_of_ble_eq_true rfl, Nat.le_of_ble_eq_true rfl, Nat.le_of_ble_eq_true rfl, Nat.le_of_ble_eq_true rfl, Nat.le_of_ble_eq_true rfl⟩ rfl (c_Rd_signP hR (by omega)) ?_
    intro v1 w9 hq1
    rw [hq1.1, hq1.2]
    clear hq1 v1 w9
    dsimp only [Option.toList, List.cons_append, List.nil_append, List.append_nil]
    refine wp_call (pc' := 18) rfl rfl rfl rfl rfl ⟨Nat.le_of_ble_eq_true rfl, Nat.le_of_ble_eq_true rfl, Nat.le_of_ble_eq_true rfl, Nat.le_of_ble_eq_true rfl, Nat.le_of_ble_eq_true rfl⟩ rfl (c_Rd_kindOf (by unfold ROw at hr ⊢; rw [up_ne (by decide), up_ne (by decide), up_ne (by decide)]; exact hr)) ?_
    rintro v1 w9 ⟨hv1, hw9⟩
    rcases Classical.em (kd (w pa p) = -1) with hk0 | hk0
    · skip
      rw [hv1, hw9, hk0]
      clear hv1 hw9 v1 w9
      dsimp only [Option.toList, List.cons_append, List.nil_append, List.append_nil]
      refine wp_istore_n (pc' := 19) rfl rfl (Nat.le_of_ble_eq_true rfl) rfl ?_
      dsimp only [lset, lset2, List.set, List.getElem?_cons_zero, List.getElem?_cons_succ]
      refine wp_iload_n (pc' := 20) rfl rfl rfl ?_
      refine wp_iconst (a := -1) (pc' := 21) rfl rfl rfl ?_
      refine wp_icmp_ne (pc' := 24) (pt := 26) rfl rfl rfl (fun q_4 => absurd q_4 (by decide)) (fun q_4 => ?_)
      refine wp_iconst (a := 0) (pc' := 25) rfl rfl rfl ?_
      refine wp_ret rfl rfl rfl ?_
      first
      | (exfalso; omega)
      | (have hh : oE (w pa) z (w 12 0) (w 12 1) p = p := by
           unfold oE bA
           first
           | (rw [if_neg (show ¬ p < z by omega), if_pos (by decide)])
           | (rw [if_pos (show p < z by omega), if_pos hk0])
         exact Or.inl ⟨rfl, by omega, by rw [hh]⟩)
    · skip
      rw [hv1, hw9]
      clear hv1 hw9 v1 w9
      have hki := kd_in (w pa p)
      dsimp only [Option.toList, List.cons_append, List.nil_append, List.append_nil]
      refine wp_istore_n (pc' := 19) rfl rfl (Nat.le_of_ble_eq_true rfl) rfl ?_
      dsimp only [lset, lset2, List.set, List.getElem?_cons_zero, List.getElem?_cons_succ]
      refine wp_iload_n (pc' := 20) rfl rfl rfl ?_
      refine wp_iconst (a := -1) (pc' := 21) rfl rfl rfl ?_
      refine wp_icmp_ne (pc' := 24) (pt := 26) rfl rfl rfl (fun q_5 => ?_) (fun q_5 => ?_)
      · skip
        refine wp_aload_n (pc' := 27) rfl rfl rfl (by omega) ?_
        refine wp_dupR (pc' := 28) rfl rfl ?_
        refine wp_getI (ci := 6) (k0 := 1) (pc' := 31) rfl rfl (by decide) (by first | assumption | rfl) ?_
        rw [up_eq]
        refine wp_iconst (a := 1) (pc' := 32) rfl rfl rfl ?_
        refine wp_iadd (pc' := 33) rfl rfl (by first | exact w32_id (by omega) (by omega) | rfl) ?_
        refine wp_putI (ci := 6) (k0 := 1) (pc' := 36) rfl rfl (by decide) (by first | assumption | rfl) ?_
        rw [up_up]
        refine wp_aload_n (pc' := 37) rfl rfl rfl (by omega) ?_
        refine wp_iconst (a := 0) (pc' := 38) rfl rfl rfl ?_
        refine wp_aload_n (pc' := 39) rfl rfl rfl (by decide) ?_
        refine wp_getI (ci := 3) (k0 := 0) (pc' := 42) rfl rfl (by decide) (by first | assumption | rfl) ?_
        rw [up_ne (show (12 : Int) ≠ 22 by decide)]
        refine wp_iconst (a := 1) (pc' := 43) rfl rfl rfl ?_
        refine wp_isub (pc' := 44) rfl rfl (by first | exact w32_id (by omega) (by omega) | rfl) ?_
        refine wp_call (pc' := 47) rfl rfl rfl rfl rfl ⟨Nat.le_of_ble_eq_true rfl, Nat.le_of_ble_eq_true rfl, Nat.le_of_ble_eq_true rfl, Nat.le_of_ble_eq_true rfl, Nat.le_of_ble_eq_true rfl⟩ rfl (c_Rd_figP (P := p + 1) (lo := 0) (hi := w 12 0 - 1) hR (by omega) (by omega) (by omega)) ?_
        rintro v1 w9 ⟨hv1, hw9⟩
        rcases Classical.em (fg (w pa) z (p + 1) (0) (w 12 0 - 1) = -1) with hf1 | hf1
        · skip
          rw [if_pos hf1] at hw9
          rw [hv1, hw9, hf1]
          clear hv1 hw9 v1 w9
          dsimp only [Option.toList, List.cons_append, List.nil_append, List.append_nil]
          refine wp_istore_n (pc' := 48) rfl rfl (Nat.le_of_ble_eq_true rfl) rfl ?_
          dsimp only [lset, lset2, List.set, List.getElem?_cons_zero, List.getElem?_cons_succ]
          refine wp_iload_n (pc' := 49) rfl rfl rfl ?_
          refine wp_iconst (a := -1) (pc' := 50) rfl rfl rfl ?_
          refine wp_icmp_ne (pc' := 53) (pt := 57) rfl rfl rfl (fun q_6 => absurd q_6 (by decide)) (fun q_6 => ?_)
          refine wp_iconst (a := -1) (pc' := 54) rfl rfl rfl ?_
          refine wp_goto (pc' := 68) rfl rfl ?_
          refine wp_istore (pc' := 70) rfl rfl (Nat.le_of_ble_eq_true rfl) rfl ?_
          dsimp only [lset, lset2, List.set, List.getElem?_cons_zero, List.getElem?_cons_succ]
          refine wp_iload (pc' := 72) rfl rfl rfl ?_
          refine wp_iconst (a := -1) (pc' := 73) rfl rfl rfl ?_
          refine wp_icmp_ne (pc' := 76) (pt := 80) rfl rfl rfl (fun q_7 => absurd q_7 (by decide)) (fun q_7 => ?_)
          refine wp_iconst (a := -1) (pc' := 77) rfl rfl rfl ?_
          refine wp_goto (pc' := 87) rfl rfl ?_
          refine wp_istore (pc' := 89) rfl rfl (Nat.le_of_ble_eq_true rfl) rfl ?_
          dsimp only [lset, lset2, List.set, List.getElem?_cons_zero, List.getElem?_cons_succ]
          refine wp_iload (pc' := 91) rfl rfl rfl ?_
          refine wp_iconst (a := -1) (pc' := 92) rfl rfl rfl ?_
          refine wp_icmp_ne (pc' := 95) (pt := 97) rfl rfl rfl (fun q_8 => absurd q_8 (by decide)) (fun q_8 => ?_)
          refine wp_iconst (a := 0) (pc' := 96) rfl rfl rfl ?_
          refine wp_ret rfl rfl rfl ?_
          have hh : oE (w pa) z (w 12 0) (w 12 1) p = p + 1 := by
            unfold oE bA
            rw [if_pos (show p < z by omega), if_neg hk0, if_pos hf1]
          exact Or.inl ⟨rfl, by omega, by rw [hh]⟩
        · skip
          rw [if_neg hf1] at hw9
          rw [hv1, hw9]
          clear hv1 hw9 v1 w9
          rw [show (p + 1 : Int) + 1 = p + 2 by omega]
          have hfl1 := fg_lt (by omega) hf1
          dsimp only [Option.toList, List.cons_append, List.nil_append, List.append_nil]
          refine wp_istore_n (pc' := 48) rfl rfl (Nat.le_of_ble_eq_true rfl) rfl ?_
          dsimp only [lset, lset2, List.set, List.getElem?_cons_zero, List.getElem?_cons_succ]
          refine wp_iload_n (pc' := 49) rfl rfl rfl ?_
          refine wp_iconst (a := -1) (pc' := 50) rfl rfl rfl ?_
          refine wp_icmp_ne (pc' := 53) (pt := 57) rfl rfl rfl (fun q_9 => ?_) (fun q_9 => ?_)
          · skip
            refine wp_aload_n (pc' := 58) rfl rfl rfl (by omega) ?_
            refine wp_iconst (a := 0) (pc' := 59) rfl rfl rfl ?_
            refine wp_aload_n (pc' := 60) rfl rfl rfl (by decide) ?_
            refine wp_getI (ci := 3) (k0 := 1) (pc' := 63) rfl rfl (by decide) (by first | assumption | rfl) ?_
            rw [up_ne (show (12 : Int) ≠ 22 by decide)]
            refine wp_iconst (a := 1) (pc' := 64) rfl rfl rfl ?_
            refine wp_isub (pc' := 65) rfl rfl (by first | exact w32_id (by omega) (by omega) | rfl) ?_
            refine wp_call (pc' := 68) rfl rfl rfl rfl rfl ⟨Nat.le_of_ble_eq_true rfl, Nat.le_of_ble_eq_true rfl, Nat.le_of_ble_eq_true rfl, Nat.le_of_ble_eq_true rfl, Nat.le_of_ble_eq_true rfl⟩ rfl (c_Rd_figP (P := p + 2) (lo := 0) (hi := w 12 1 - 1) hR (by omega) (by omega) (by omega)) ?_
            rintro v1 w9 ⟨hv1, hw9⟩
            rcases Classical.em (fg (w pa) z (p + 2) (0) (w 12 1 - 1) = -1) with hf2 | hf2
            · skip
              rw [if_pos hf2] at hw9
              rw [hv1, hw9, hf2]
              clear hv1 hw9 v1 w9
              dsimp only [Option.toList, List.cons_append, List.nil_append, List.append_nil]
              refine wp_istore (pc' := 70) rfl rfl (Nat.le_of_ble_eq_true rfl) rfl ?_
              dsimp only [lset, lset2, List.set, List.getElem?_cons_zero, List.getElem?_cons_succ]
              refine wp_iload (pc' := 72) rfl rfl rfl ?_
              refine wp_iconst (a := -1) (pc' := 73) rfl rfl rfl ?_
              refine wp_icmp_ne (pc' := 76) (pt := 80) rfl rfl rfl (fun q_10 => absurd q_10 (by decide)) (fun q_10 => ?_)
              refine wp_iconst (a := -1) (pc' := 77) rfl rfl rfl ?_
              refine wp_goto (pc' := 87) rfl rfl ?_
              refine wp_istore (pc' := 89) rfl rfl (Nat.le_of_ble_eq_true rfl) rfl ?_
              dsimp only [lset, lset2, List.set, List.getElem?_cons_zero, List.getElem?_cons_succ]
              refine wp_iload (pc' := 91) rfl rfl rfl ?_
              refine wp_iconst (a := -1) (pc' := 92) rfl rfl rfl ?_
              refine wp_icmp_ne (pc' := 95) (pt := 97) rfl rfl rfl (fun q_11 => absurd q_11 (by decide)) (fun q_11 => ?_)
              refine wp_iconst (a := 0) (pc' := 96) rfl rfl rfl ?_
              refine wp_ret rfl rfl rfl ?_
              have hh : oE (w pa) z (w 12 0) (w 12 1) p = p + 2 := by
                unfold oE bA
                rw [if_pos (show p < z by omega), if_neg hk0, if_neg hf1, if_pos hf2]
              exact Or.inl ⟨rfl, by omega, by rw [hh]⟩
            · skip
              rw [if_neg hf2] at hw9
              rw [hv1, hw9]
              clear hv1 hw9 v1 w9
              rw [show (p + 2 : Int) + 1 = p + 3 by omega]
              have hfl2 := fg_lt (by omega) hf2
              dsimp only [Option.toList, List.cons_append, List.nil_append, List.append_nil]
              refine wp_istore (pc' := 70) rfl rfl (Nat.le_of_ble_eq_true rfl) rfl ?_
              dsimp only [lset, lset2, List.set, List.getElem?_cons_zero, List.getElem?_cons_succ]
              refine wp_iload (pc' := 72) rfl rfl rfl ?_
              refine wp_iconst (a := -1) (pc' := 73) rfl rfl rfl ?_
              refine wp_icmp_ne (pc' := 76) (pt := 80) rfl rfl rfl (fun q_12 => ?_) (fun q_12 => ?_)
              · skip
                refine wp_aload_n (pc' := 81) rfl rfl rfl (by omega) ?_
                refine wp_iconst (a := 1) (pc' := 82) rfl rfl rfl ?_
                refine wp_bipush (a := 9) (pc' := 84) rfl rfl rfl ?_
                refine wp_call (pc' := 87) rfl rfl rfl rfl rfl ⟨Nat.le_of_ble_eq_true rfl, Nat.le_of_ble_eq_true rfl, Nat.le_of_ble_eq_true rfl, Nat.le_of_ble_eq_true rfl, Nat.le_of_ble_eq_true rfl⟩ rfl (c_Rd_figP (P := p + 3) (lo := 1) (hi := 9) hR (by omega) (by omega) (by omega)) ?_
                rintro v1 w9 ⟨hv1, hw9⟩
                rcases Classical.em (fg (w pa) z (p + 3) (1) (9) = -1) with hf3 | hf3
                · skip
                  rw [if_pos hf3] at hw9
                  rw [hv1, hw9, hf3]
                  clear hv1 hw9 v1 w9
                  dsimp only [Option.toList, List.cons_append, List.nil_append, List.append_nil]
                  refine wp_istore (pc' := 89) rfl rfl (Nat.le_of_ble_eq_true rfl) rfl ?_
                  dsimp only [lset, lset2, List.set, List.getElem?_cons_zero, List.getElem?_cons_succ]
                  refine wp_iload (pc' := 91) rfl rfl rfl ?_
                  refine wp_iconst (a := -1) (pc' := 92) rfl rfl rfl ?_
                  refine wp_icmp_ne (pc' := 95) (pt := 97) rfl rfl rfl (fun q_13 => absurd q_13 (by decide)) (fun q_13 => ?_)
                  refine wp_iconst (a := 0) (pc' := 96) rfl rfl rfl ?_
                  refine wp_ret rfl rfl rfl ?_
                  have hh : oE (w pa) z (w 12 0) (w 12 1) p = p + 3 := by
                    unfold oE bA
                    rw [if_pos (show p < z by omega), if_neg hk0, if_neg hf1, if_neg hf2, if_pos hf3]
                  exact Or.inl ⟨rfl, by omega, by rw [hh]⟩
                · skip
                  rw [if_neg hf3] at hw9
                  rw [hv1, hw9]
                  clear hv1 hw9 v1 w9
                  rw [show (p + 3 : Int) + 1 = p + 4 by omega]
                  have hfl3 := fg_lt (by omega) hf3
                  dsimp only [Option.toList, List.cons_append, List.nil_append, List.append_nil]
                  refine wp_istore (pc' := 89) rfl rfl (Nat.le_of_ble_eq_true rfl) rfl ?_
                  dsimp only [lset, lset2, List.set, List.getElem?_cons_zero, List.getElem?_cons_succ]
                  refine wp_iload (pc' := 91) rfl rfl rfl ?_
                  refine wp_iconst (a := -1) (pc' := 92) rfl rfl rfl ?_
                  refine wp_icmp_ne (pc' := 95) (pt := 97) rfl rfl rfl (fun q_14 => ?_) (fun q_14 => ?_)
                  · skip
                    refine wp_aload_n (pc' := 98) rfl rfl rfl (by decide) ?_
                    refine wp_iload_n (pc' := 99) rfl rfl rfl ?_
                    refine wp_aload_n (pc' := 100) rfl rfl rfl (by decide) ?_
                    refine wp_getI (ci := 3) (k0 := 0) (pc' := 103) rfl rfl (by decide) (by first | assumption | rfl) ?_
                    rw [up_ne (show (12 : Int) ≠ 22 by decide)]
                    have hmm := mul_bd (show 0 ≤ w 12 0 by omega) (show w 12 0 ≤ 5 by omega) (show 0 ≤ fg (w pa) z (p + 2) 0 (w 12 1 - 1) by omega) (show fg (w pa) z (p + 2) 0 (w 12 1 - 1) ≤ 4 by omega)
                    refine wp_iload (pc' := 105) rfl rfl rfl ?_
                    refine wp_imul (pc' := 106) rfl rfl (by first | exact w32_id (by omega) (by omega) | rfl) ?_
                    refine wp_iload_n (pc' := 107) rfl rfl rfl ?_
                    refine wp_iadd (pc' := 108) rfl rfl (by first | exact w32_id (by omega) (by omega) | rfl) ?_
                    refine wp_iload (pc' := 110) rfl rfl rfl ?_
                    refine wp_call (pc' := 113) rfl rfl rfl rfl rfl ⟨Nat.le_of_ble_eq_true rfl, Nat.le_of_ble_eq_true rfl, Nat.le_of_ble_eq_true rfl, Nat.le_of_ble_eq_true rfl, Nat.le_of_ble_eq_true rfl⟩ rfl (c_Land_settle12 (hT.putF (by decide)) (by rw [up_ne (by decide)]; exact hn)) ?_
                    rintro v1 w9 ⟨hv1, hw9⟩
                    rw [hv1, hw9]
                    clear hv1 hw9 v1 w9
                    rw [up_ne (show (12 : Int) ≠ 22 by decide)]
                    dsimp only [Option.toList, List.cons_append, List.nil_append, List.append_nil]
                    refine wp_iconst (a := 1) (pc' := 114) rfl rfl rfl ?_
                    refine wp_ret rfl rfl rfl ?_
                    have hb : bA (w pa) z p = w pa p := if_pos (by omega)
                    have hh : oE (w pa) z (w 12 0) (w 12 1) p = p + 4 := by
                      unfold oE
                      rw [hb, if_neg hk0, if_neg hf1, if_neg hf2, if_neg hf3]
                    rw [hb]
                    exact Or.inr ⟨rfl, hh, by omega, hk0, hfl1.2, hfl2.2, hfl3.2, rfl⟩
                  · skip
                    refine wp_iconst (a := 0) (pc' := 96) rfl rfl rfl ?_
                    refine wp_ret rfl rfl rfl ?_
                    exfalso; omega
              · skip
                refine wp_iconst (a := -1) (pc' := 77) rfl rfl rfl ?_
                refine wp_goto (pc' := 87) rfl rfl ?_
                refine wp_istore (pc' := 89) rfl rfl (Nat.le_of_ble_eq_true rfl) rfl ?_
                dsimp only [lset, lset2, List.set, List.getElem?_cons_zero, List.getElem?_cons_succ]
                refine wp_iload (pc' := 91) rfl rfl rfl ?_
                refine wp_iconst (a := -1) (pc' := 92) rfl rfl rfl ?_
                refine wp_icmp_ne (pc' := 95) (pt := 97) rfl rfl rfl (fun q_15 => absurd q_15 (by decide)) (fun q_15 => ?_)
                refine wp_iconst (a := 0) (pc' := 96) rfl rfl rfl ?_
                refine wp_ret rfl rfl rfl ?_
                exfalso; omega
          · skip
            refine wp_iconst (a := -1) (pc' := 54) rfl rfl rfl ?_
            refine wp_goto (pc' := 68) rfl rfl ?_
            refine wp_istore (pc' := 70) rfl rfl (Nat.le_of_ble_eq_true rfl) rfl ?_
            dsimp only [lset, lset2, List.set, List.getElem?_cons_zero, List.getElem?_cons_succ]
            refine wp_iload (pc' := 72) rfl rfl rfl ?_
            refine wp_iconst (a := -1) (pc' := 73) rfl rfl rfl ?_
            refine wp_icmp_ne (pc' := 76) (pt := 80) rfl rfl rfl (fun q_16 => absurd q_16 (by decide)) (fun q_16 => ?_)
            refine wp_iconst (a := -1) (pc' := 77) rfl rfl rfl ?_
            refine wp_goto (pc' := 87) rfl rfl ?_
            refine wp_istore (pc' := 89) rfl rfl (Nat.le_of_ble_eq_true rfl) rfl ?_
            dsimp only [lset, lset2, List.set, List.getElem?_cons_zero, List.getElem?_cons_succ]
            refine wp_iload (pc' := 91) rfl rfl rfl ?_
            refine wp_iconst (a := -1) (pc' := 92) rfl rfl rfl ?_
            refine wp_icmp_ne (pc' := 95) (pt := 97) rfl rfl rfl (fun q_17 => absurd q_17 (by decide)) (fun q_17 => ?_)
            refine wp_iconst (a := 0) (pc' := 96) rfl rfl rfl ?_
            refine wp_ret rfl rfl rfl ?_
            exfalso; omega
      · skip
        refine wp_iconst (a := 0) (pc' := 25) rfl rfl rfl ?_
        refine wp_ret rfl rfl rfl ?_
        first
        | (exfalso; omega)
        | (have hh : oE (w pa) z (w 12 0) (w 12 1) p = p := by
             unfold oE bA
             first
             | (rw [if_neg (show ¬ p < z by omega), if_pos (by decide)])
             | (rw [if_pos (show p < z by omega), if_pos hk0])
           exact Or.inl ⟨rfl, by omega, by rw [hh]⟩)
