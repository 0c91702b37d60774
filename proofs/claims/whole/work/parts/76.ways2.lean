/-! ways round, the class's side -/
def WQ : List Int := [48, 49]
theorem BI.congr {c l mt cl to : Int} {A A' Q Q' : Int → Int} {h t : Int} {m : Nat} (hc : CL c l) (hB : BI c l mt cl to A Q h t m) (ht : Cel c l to) (hA : ∀ x : Int, Cel c l x → A' x = A x) (hQ : ∀ i : Int, 0 ≤ i → i < t → Q' i = Q i) : BI c l mt cl to A' Q' h t m := by
  obtain ⟨⟨a1, a2, a3, a4⟩, ⟨b1, b2, b2c⟩, b3, b4, b5⟩ := hB
  have hm := hc.mul
  have hcn : ∀ n : Nat, (n : Int) ≤ c * l → cntN A' n = cntN A n := by
    intro n
    induction n with
    | zero => intro _; rfl
    | succ n ih =>
      intro hn
      unfold cntN
      rw [ih (by omega), hA n ⟨by omega, by omega⟩]
  refine ⟨⟨fun x hx => by rw [hA x hx]; exact a1 x hx, by rw [hA to ht]; exact a2, fun x hx h0 => a3 x hx (by rw [← hA x hx]; exact h0), fun x hx h0 => ?_⟩, ⟨b1, b2, by rw [hcn _ (by omega)]; exact b2c⟩, fun i i0 i1 => ?_, fun x hx h0 => ?_, fun i w i0 hi w1 w4 hb ho => ?_⟩
  · rw [hA x hx] at h0
    obtain ⟨o1, y, y1, y2, y3⟩ := a4 x hx h0
    have hyc := (y1.sym hc hx).2.1
    exact ⟨o1, y, y1, by rw [hA y hyc]; exact y2, by rw [hA y hyc, hA x hx]; exact y3⟩
  · obtain ⟨q1, q2, q3, q4⟩ := b3 i i0 i1
    rw [hQ i i0 i1, hA _ q1]
    refine ⟨q1, q2, fun hh => ?_, fun j j1 j2 => ?_⟩
    · rw [hQ h b1 hh, hA _ (b3 h b1 hh).1]
      exact q3 hh
    · rw [hQ j (by omega) j2, hA _ (b3 j (by omega) j2).1]
      exact q4 j j1 j2
  · rw [hA x hx] at h0
    obtain ⟨i, i0, i1, hi⟩ := b4 x hx h0
    exact ⟨i, i0, i1, by rw [hQ i i0 i1, hi]⟩
  · have hit : i < t := by rcases hi with hi | hi <;> omega
    rw [hQ i i0 hit] at hb ho ⊢
    have hcx := beside_cel hc (b3 i i0 hit).1 hb
    rw [hA _ hcx, hA _ (b3 i i0 hit).1]
    exact b5 i w i0 hi w1 w4 hb ho
set_option maxRecDepth 20000 in
set_option maxHeartbeats 4000000 in
theorem l_reach {w : Hp} {d : Nat} {cl to h cell x4 : Int} (hT0 : Stc w) (hc : CL (w 3 0) (w 3 1)) (hto : Cel (w 3 0) (w 3 1) to) : ∀ (k m : Nat) (y t : Int) (w1 : Hp) (x7 x8 : Option PV), y = (m : Int) + 1 → m + k = 4 → Same w w1 WQ → h < t → cell = w1 49 h → BI (w 3 0) (w 3 1) (w 3 3) cl to (w1 48) (w1 49) h t m → (∀ x : Int, Cel (w 3 0) (w 3 1) x → w1 48 x < t) → WP SH (d + 1) 51 7 [some (vR 47), some (vR 3), some (vI cell), some (vI cl), some (vI x4), some (vI t), some (vI y), x7, x8] [] w1 (fun v w' => ∃ t' : Int, v = some (vI t') ∧ Same w w' WQ ∧ h < t' ∧ BI (w 3 0) (w 3 1) (w 3 3) cl to (w' 48) (w' 49) h t' 4 ∧ ∀ x : Int, Cel (w 3 0) (w 3 1) x → w' 48 x < t') := by
  intro k
  induction k with
  | zero =>
    intro m y t w1 x7 x8 hy hmk hS hht hcell hB hU
    have hT := hT0.same hS (by decide)
    have e3 : w1 3 = w 3 := hS 3 (by decide)
    have hml := hc.mul
    have hq := hB.2.2.1 h hB.2.1.1 hht
    have htb := hB.2.1.2.2
    have ht0 := hB.2.1.1
    have hxc : Cel (w 3 0) (w 3 1) cell := by rw [hcell]; exact hq.1
    have hxd := hxc.dm hc
    have hc1 : CL (w1 3 0) (w1 3 1) := by rw [e3]; exact hc
    have hx1 : Cel (w1 3 0) (w1 3 1) cell := by rw [e3]; exact hxc
    have e33 : w1 3 3 = w 3 3 := by rw [e3]
    have hUc := hU cell hxc
    have hcq : w1 48 cell = w1 48 (w1 49 h) := by rw [← hcell]
    refine wp_iload (pc' := 9) rfl rfl rfl ?_
    refine wp_iconst (a := 4) (pc' := 10) rfl rfl rfl ?_
    refine wp_icmp_gt (pc' := 13) (pt := 106) rfl rfl rfl (fun q_1 => ?_) (fun q_1 => ?_)
    · skip
      refine wp_iload (pc' := 108) rfl rfl rfl ?_
      refine wp_ret rfl rfl rfl ?_
      obtain rfl : m = 4 := by omega
      exact ⟨t, rfl, hS, hht, hB, hU⟩
    · skip
      exfalso; omega
  | succ k ih =>
    intro m y t w1 x7 x8 hy hmk hS hht hcell hB hU
    have hT := hT0.same hS (by decide)
    have e3 : w1 3 = w 3 := hS 3 (by decide)
    have hml := hc.mul
    have hq := hB.2.2.1 h hB.2.1.1 hht
    have htb := hB.2.1.2.2
    have ht0 := hB.2.1.1
    have hxc : Cel (w 3 0) (w 3 1) cell := by rw [hcell]; exact hq.1
    have hxd := hxc.dm hc
    have hc1 : CL (w1 3 0) (w1 3 1) := by rw [e3]; exact hc
    have hx1 : Cel (w1 3 0) (w1 3 1) cell := by rw [e3]; exact hxc
    have e33 : w1 3 3 = w 3 3 := by rw [e3]
    have hUc := hU cell hxc
    have hcq : w1 48 cell = w1 48 (w1 49 h) := by rw [← hcell]
    refine wp_iload (pc' := 9) rfl rfl rfl ?_
    refine wp_iconst (a := 4) (pc' := 10) rfl rfl rfl ?_
    refine wp_icmp_gt (pc' := 13) (pt := 106) rfl rfl rfl (fun q_1 => ?_) (fun q_1 => ?_)
    · skip
      exfalso; omega
    · skip
      refine wp_aload_n (pc' := 14) rfl rfl rfl (by decide) ?_
      refine wp_iload_n (pc' := 15) rfl rfl rfl ?_
      refine wp_iload (pc' := 17) rfl rfl rfl ?_
      refine wp_call (pc' := 20) rfl rfl rfl rfl rfl ⟨Nat.le_of_ble_eq_true rfl, Nat.le_of_ble_eq_true rfl, Nat.le_of_ble_eq_true rfl, Nat.le_of_ble_eq_true rfl, Nat.le_of_ble_eq_true rfl⟩ rfl (c_Land_beside hc1 hx1) ?_
      intro v1 w9 hq1
      rw [hq1.1, hq1.2]
      clear hq1 v1 w9
      rw [e3]
      have hbg := beside_ge (way := y) hc hxc
      obtain ⟨x, hx⟩ : ∃ x, x = sBeside (w 3 0) (w 3 1) cell y := ⟨_, rfl⟩
      rw [← hx] at hbg ⊢
      have hxq : x = sBeside (w 3 0) (w 3 1) (w1 49 h) ((m : Int) + 1) := by rw [hx, hy, hcell]
      dsimp only [Option.toList, List.cons_append, List.nil_append, List.append_nil]
      refine wp_istore (pc' := 22) rfl rfl (Nat.le_of_ble_eq_true rfl) rfl ?_
      dsimp only [lset, lset2, List.set, List.getElem?_cons_zero, List.getElem?_cons_succ]
      refine wp_iload (pc' := 24) rfl rfl rfl ?_
      refine wp_iconst (a := -1) (pc' := 25) rfl rfl rfl ?_
      refine wp_icmp_eq (pc' := 28) (pt := 47) rfl rfl rfl (fun q_2 => ?_) (fun q_2 => ?_)
      · skip
        refine wp_iconst (a := 0) (pc' := 48) rfl rfl rfl ?_
        refine wp_istore (pc' := 50) rfl rfl (Nat.le_of_ble_eq_true rfl) rfl ?_
        dsimp only [lset, lset2, List.set, List.getElem?_cons_zero, List.getElem?_cons_succ]
        refine wp_iload (pc' := 52) rfl rfl rfl ?_
        refine wp_if_eq (pc' := 55) (pt := 100) rfl rfl rfl (fun q_3 => ?_) (fun q_3 => absurd (by decide) q_3)
        refine wp_iinc (pc' := 103) rfl rfl rfl (inc_id (by omega) (by omega)) rfl ?_
        dsimp only [lset, lset2, List.set, List.getElem?_cons_zero, List.getElem?_cons_succ]
        refine wp_goto (pc' := 7) rfl rfl ?_
        refine ih (m + 1) _ _ _ _ _ (by omega) (by omega) hS hht hcell (hB.skip hc hht ?_) hU
        rw [← hxq]
        first
        | exact Or.inl (by omega)
        | exact Or.inr (Or.inl (fun z => by have z1 := z.1; have z2 := z.2; omega))
        | exact Or.inr (Or.inr (by omega))
        | (exfalso
           have hcx : Cel (w 3 0) (w 3 1) x := by rw [hx]; exact beside_cel hc hxc (by rw [← hx]; omega)
           have hrm := hB.room hc hcx (by omega)
           omega)
      · skip
        refine wp_iload (pc' := 30) rfl rfl rfl ?_
        refine wp_aload_n (pc' := 31) rfl rfl rfl (by decide) ?_
        refine wp_getI (ci := 3) (k0 := 3) (pc' := 34) rfl rfl (by decide) (by first | assumption | rfl) ?_
        refine wp_icmp_eq (pc' := 37) (pt := 47) rfl rfl rfl (fun q_4 => ?_) (fun q_4 => ?_)
        · skip
          refine wp_iconst (a := 0) (pc' := 48) rfl rfl rfl ?_
          refine wp_istore (pc' := 50) rfl rfl (Nat.le_of_ble_eq_true rfl) rfl ?_
          dsimp only [lset, lset2, List.set, List.getElem?_cons_zero, List.getElem?_cons_succ]
          refine wp_iload (pc' := 52) rfl rfl rfl ?_
          refine wp_if_eq (pc' := 55) (pt := 100) rfl rfl rfl (fun q_5 => ?_) (fun q_5 => absurd (by decide) q_5)
          refine wp_iinc (pc' := 103) rfl rfl rfl (inc_id (by omega) (by omega)) rfl ?_
          dsimp only [lset, lset2, List.set, List.getElem?_cons_zero, List.getElem?_cons_succ]
          refine wp_goto (pc' := 7) rfl rfl ?_
          refine ih (m + 1) _ _ _ _ _ (by omega) (by omega) hS hht hcell (hB.skip hc hht ?_) hU
          rw [← hxq]
          first
          | exact Or.inl (by omega)
          | exact Or.inr (Or.inl (fun z => by have z1 := z.1; have z2 := z.2; omega))
          | exact Or.inr (Or.inr (by omega))
          | (exfalso
             have hcx : Cel (w 3 0) (w 3 1) x := by rw [hx]; exact beside_cel hc hxc (by rw [← hx]; omega)
             have hrm := hB.room hc hcx (by omega)
             omega)
        · skip
          refine wp_iload (pc' := 39) rfl rfl rfl ?_
          refine wp_iload_n (pc' := 40) rfl rfl rfl ?_
          refine wp_icmp_eq (pc' := 43) (pt := 47) rfl rfl rfl (fun q_6 => ?_) (fun q_6 => ?_)
          · skip
            refine wp_iconst (a := 0) (pc' := 48) rfl rfl rfl ?_
            refine wp_istore (pc' := 50) rfl rfl (Nat.le_of_ble_eq_true rfl) rfl ?_
            dsimp only [lset, lset2, List.set, List.getElem?_cons_zero, List.getElem?_cons_succ]
            refine wp_iload (pc' := 52) rfl rfl rfl ?_
            refine wp_if_eq (pc' := 55) (pt := 100) rfl rfl rfl (fun q_7 => ?_) (fun q_7 => absurd (by decide) q_7)
            refine wp_iinc (pc' := 103) rfl rfl rfl (inc_id (by omega) (by omega)) rfl ?_
            dsimp only [lset, lset2, List.set, List.getElem?_cons_zero, List.getElem?_cons_succ]
            refine wp_goto (pc' := 7) rfl rfl ?_
            refine ih (m + 1) _ _ _ _ _ (by omega) (by omega) hS hht hcell (hB.skip hc hht ?_) hU
            rw [← hxq]
            first
            | exact Or.inl (by omega)
            | exact Or.inr (Or.inl (fun z => by have z1 := z.1; have z2 := z.2; omega))
            | exact Or.inr (Or.inr (by omega))
            | (exfalso
               have hcx : Cel (w 3 0) (w 3 1) x := by rw [hx]; exact beside_cel hc hxc (by rw [← hx]; omega)
               have hrm := hB.room hc hcx (by omega)
               omega)
          · skip
            refine wp_iconst (a := 1) (pc' := 44) rfl rfl rfl ?_
            refine wp_goto (pc' := 48) rfl rfl ?_
            refine wp_istore (pc' := 50) rfl rfl (Nat.le_of_ble_eq_true rfl) rfl ?_
            dsimp only [lset, lset2, List.set, List.getElem?_cons_zero, List.getElem?_cons_succ]
            refine wp_iload (pc' := 52) rfl rfl rfl ?_
            refine wp_if_eq (pc' := 55) (pt := 100) rfl rfl rfl (fun q_8 => absurd q_8 (by decide)) (fun q_8 => ?_)
            refine wp_aload_n (pc' := 56) rfl rfl rfl (by decide) ?_
            refine wp_getR (r' := 48) (ci := 4) (k0 := 0) (pc' := 59) rfl rfl (by decide) (by first | assumption | rfl) (hT.get 62 rfl) ?_
            refine wp_iload (pc' := 61) rfl rfl rfl ?_
            refine wp_iaload (pc' := 62) rfl rfl (by first | assumption | rfl) (by omega) ?_
            refine wp_iconst (a := -1) (pc' := 63) rfl rfl rfl ?_
            refine wp_icmp_ne (pc' := 66) (pt := 100) rfl rfl rfl (fun q_9 => ?_) (fun q_9 => ?_)
            · skip
              refine wp_iinc (pc' := 103) rfl rfl rfl (inc_id (by omega) (by omega)) rfl ?_
              dsimp only [lset, lset2, List.set, List.getElem?_cons_zero, List.getElem?_cons_succ]
              refine wp_goto (pc' := 7) rfl rfl ?_
              refine ih (m + 1) _ _ _ _ _ (by omega) (by omega) hS hht hcell (hB.skip hc hht ?_) hU
              rw [← hxq]
              first
              | exact Or.inl (by omega)
              | exact Or.inr (Or.inl (fun z => by have z1 := z.1; have z2 := z.2; omega))
              | exact Or.inr (Or.inr (by omega))
              | (exfalso
                 have hcx : Cel (w 3 0) (w 3 1) x := by rw [hx]; exact beside_cel hc hxc (by rw [← hx]; omega)
                 have hrm := hB.room hc hcx (by omega)
                 omega)
            · skip
              refine wp_iload (pc' := 68) rfl rfl rfl ?_
              refine wp_bipush (a := 25) (pc' := 70) rfl rfl rfl ?_
              refine wp_icmp_ge (pc' := 73) (pt := 100) rfl rfl rfl (fun q_10 => ?_) (fun q_10 => ?_)
              · skip
                refine wp_iinc (pc' := 103) rfl rfl rfl (inc_id (by omega) (by omega)) rfl ?_
                dsimp only [lset, lset2, List.set, List.getElem?_cons_zero, List.getElem?_cons_succ]
                refine wp_goto (pc' := 7) rfl rfl ?_
                refine ih (m + 1) _ _ _ _ _ (by omega) (by omega) hS hht hcell (hB.skip hc hht ?_) hU
                rw [← hxq]
                first
                | exact Or.inl (by omega)
                | exact Or.inr (Or.inl (fun z => by have z1 := z.1; have z2 := z.2; omega))
                | exact Or.inr (Or.inr (by omega))
                | (exfalso
                   have hcx : Cel (w 3 0) (w 3 1) x := by rw [hx]; exact beside_cel hc hxc (by rw [← hx]; omega)
                   have hrm := hB.room hc hcx (by omega)
                   omega)
              · skip
                refine wp_aload_n (pc' := 74) rfl rfl rfl (by decide) ?_
                refine wp_getR (r' := 48) (ci := 4) (k0 := 0) (pc' := 77) rfl rfl (by decide) (by first | assumption | rfl) (hT.get 62 rfl) ?_
                refine wp_iload (pc' := 79) rfl rfl rfl ?_
                refine wp_aload_n (pc' := 80) rfl rfl rfl (by decide) ?_
                refine wp_getR (r' := 48) (ci := 4) (k0 := 0) (pc' := 83) rfl rfl (by decide) (by first | assumption | rfl) (hT.get 62 rfl) ?_
                refine wp_iload_n (pc' := 84) rfl rfl rfl ?_
                refine wp_iaload (pc' := 85) rfl rfl (by first | assumption | rfl) (by omega) ?_
                refine wp_iconst (a := 1) (pc' := 86) rfl rfl rfl ?_
                refine wp_iadd (pc' := 87) rfl rfl (by first | exact w32_id (by omega) (by omega) | rfl) ?_
                refine wp_iastore (pc' := 88) rfl rfl (by first | assumption | rfl) (by omega) ?_
                refine wp_aload_n (pc' := 89) rfl rfl rfl (by decide) ?_
                refine wp_getR (r' := 49) (ci := 4) (k0 := 1) (pc' := 92) rfl rfl (by decide) (by first | assumption | rfl) (hT.get 63 rfl) ?_
                refine wp_iload (pc' := 94) rfl rfl rfl ?_
                refine wp_iload (pc' := 96) rfl rfl rfl ?_
                refine wp_iastore (pc' := 97) rfl rfl (by first | assumption | rfl) (by omega) ?_
                refine wp_iinc (pc' := 100) rfl rfl rfl (inc_id (by omega) (by omega)) rfl ?_
                dsimp only [lset, lset2, List.set, List.getElem?_cons_zero, List.getElem?_cons_succ]
                refine wp_iinc (pc' := 103) rfl rfl rfl (inc_id (by omega) (by omega)) rfl ?_
                dsimp only [lset, lset2, List.set, List.getElem?_cons_zero, List.getElem?_cons_succ]
                refine wp_goto (pc' := 7) rfl rfl ?_
                have hcx : Cel (w 3 0) (w 3 1) x := by rw [hx]; exact beside_cel hc hxc (by rw [← hx]; omega)
                have hbl := hB.2.2.1 h ht0 hht
                have hadd := hB.add hc (by omega) hht hxq (by omega) ⟨by omega, by omega⟩ (by omega)
                refine ih (m + 1) _ _ _ _ _ (by omega) (by omega) ((hS.put (by decide)).put (by decide)) (by omega) ?_ (hadd.congr hc hto (fun z hz => ?_) (fun i i0 i1 => ?_)) (fun z hz => ?_)
                · rw [up_at (by omega), up_ne (by decide)]
                  exact hcell
                · rw [up_ne (by decide)]
                  unfold updA
                  by_cases hzx : z = x
                  · rw [if_pos hzx, hzx, up_eq, hcell]
                  · rw [if_neg hzx, up_at hzx]
                · unfold updA
                  by_cases hit : i = t
                  · rw [if_pos hit, hit, up_eq]
                  · rw [if_neg hit, up_at hit, up_ne (by decide)]
                · rw [up_ne (by decide)]
                  by_cases hzx : z = x
                  · rw [hzx, up_eq]
                    omega
                  · rw [up_at hzx]
                    have := hU z hz
                    omega
set_option maxRecDepth 20000 in
set_option maxHeartbeats 4000000 in
theorem c_Paths_reach {w : Hp} {d : Nat} {cl to h t cell : Int} (hT0 : Stc w) (hc : CL (w 3 0) (w 3 1)) (hto : Cel (w 3 0) (w 3 1) to) (hht : h < t) (hcell : cell = w 49 h) (hB : BI (w 3 0) (w 3 1) (w 3 3) cl to (w 48) (w 49) h t 0) (hU : ∀ x : Int, Cel (w 3 0) (w 3 1) x → w 48 x < t) : WP SH (d + 1) 51 0 [some (vR 47), some (vR 3), some (vI cell), some (vI cl), some (vI t), none, none, none, none] [] w (fun v w' => ∃ t' : Int, v = some (vI t') ∧ Same w w' WQ ∧ h < t' ∧ BI (w 3 0) (w 3 1) (w 3 3) cl to (w' 48) (w' 49) h t' 4 ∧ ∀ x : Int, Cel (w 3 0) (w 3 1) x → w' 48 x < t') := by
  refine wp_iload (pc' := 2) rfl rfl rfl ?_
  refine wp_istore (pc' := 4) rfl rfl (Nat.le_of_ble_eq_true rfl) rfl ?_
  dsimp only [lset, lset2, List.set, List.getElem?_cons_zero, List.getElem?_cons_succ]
  refine wp_iconst (a := 1) (pc' := 5) rfl rfl rfl ?_
  refine wp_istore (pc' := 7) rfl rfl (Nat.le_of_ble_eq_true rfl) rfl ?_
  dsimp only [lset, lset2, List.set, List.getElem?_cons_zero, List.getElem?_cons_succ]
  exact l_reach hT0 hc hto 4 0 _ _ w _ _ rfl rfl (Same.rf _ _) hht hcell hB hU
set_option maxRecDepth 20000 in
set_option maxHeartbeats 4000000 in
theorem l_steps1 {w : Hp} {d : Nat} {fr to cl : Int} {Q : Option PV → Hp → Prop} (hT0 : Stc w) (hc : CL (w 3 0) (w 3 1)) (K : ∀ w1 : Hp, Same w w1 WQ → (∀ j : Int, 0 ≤ j → j < w 3 0 * w 3 1 → w1 48 j = -1) → WP SH (d + 2) 50 26 [some (vR 47), some (vR 3), some (vI fr), some (vI to), some (vI cl), some (vI (w 3 0 * w 3 1)), none] [] w1 Q) : ∀ (k : Nat) (y : Int) (w1 : Hp), 0 ≤ y → y + k = w 3 0 * w 3 1 → Same w w1 WQ → (∀ j : Int, 0 ≤ j → j < y → w1 48 j = -1) → WP SH (d + 2) 50 3 [some (vR 47), some (vR 3), some (vI fr), some (vI to), some (vI cl), some (vI y), none] [] w1 Q := by
  intro k
  induction k with
  | zero =>
    intro y w1 h0 hyk hS hz
    have hT := hT0.same hS (by decide)
    have e3 : w1 3 = w 3 := hS 3 (by decide)
    have hml := hc.mul
    have hml0 : w1 3 0 * w1 3 1 = w 3 0 * w 3 1 := by rw [e3]
    refine wp_iload (pc' := 5) rfl rfl rfl ?_
    refine wp_aload_n (pc' := 6) rfl rfl rfl (by decide) ?_
    refine wp_call (pc' := 9) rfl rfl rfl rfl rfl ⟨Nat.le_of_ble_eq_true rfl, Nat.le_of_ble_eq_true rfl, Nat.le_of_ble_eq_true rfl, Nat.le_of_ble_eq_true rfl, Nat.le_of_ble_eq_true rfl⟩ rfl (c_Land_cells (by omega)) ?_
    intro v1 w9 hq1
    rw [hq1.1, hq1.2]
    clear hq1 v1 w9
    dsimp only [Option.toList, List.cons_append, List.nil_append, List.append_nil]
    refine wp_icmp_ge (pc' := 12) (pt := 26) rfl rfl rfl (fun q_1 => ?_) (fun q_1 => ?_)
    · skip
      obtain rfl : y = w 3 0 * w 3 1 := by omega
      exact K w1 hS hz
    · skip
      exfalso; omega
  | succ k ih =>
    intro y w1 h0 hyk hS hz
    have hT := hT0.same hS (by decide)
    have e3 : w1 3 = w 3 := hS 3 (by decide)
    have hml := hc.mul
    have hml0 : w1 3 0 * w1 3 1 = w 3 0 * w 3 1 := by rw [e3]
    refine wp_iload (pc' := 5) rfl rfl rfl ?_
    refine wp_aload_n (pc' := 6) rfl rfl rfl (by decide) ?_
    refine wp_call (pc' := 9) rfl rfl rfl rfl rfl ⟨Nat.le_of_ble_eq_true rfl, Nat.le_of_ble_eq_true rfl, Nat.le_of_ble_eq_true rfl, Nat.le_of_ble_eq_true rfl, Nat.le_of_ble_eq_true rfl⟩ rfl (c_Land_cells (by omega)) ?_
    intro v1 w9 hq1
    rw [hq1.1, hq1.2]
    clear hq1 v1 w9
    dsimp only [Option.toList, List.cons_append, List.nil_append, List.append_nil]
    refine wp_icmp_ge (pc' := 12) (pt := 26) rfl rfl rfl (fun q_1 => ?_) (fun q_1 => ?_)
    · skip
      exfalso; omega
    · skip
      refine wp_aload_n (pc' := 13) rfl rfl rfl (by decide) ?_
      refine wp_getR (r' := 48) (ci := 4) (k0 := 0) (pc' := 16) rfl rfl (by decide) (by first | assumption | rfl) (hT.get 62 rfl) ?_
      refine wp_iload (pc' := 18) rfl rfl rfl ?_
      refine wp_iconst (a := -1) (pc' := 19) rfl rfl rfl ?_
      refine wp_iastore (pc' := 20) rfl rfl (by first | assumption | rfl) (by omega) ?_
      refine wp_iinc (pc' := 23) rfl rfl rfl (inc_id (by omega) (by omega)) rfl ?_
      dsimp only [lset, lset2, List.set, List.getElem?_cons_zero, List.getElem?_cons_succ]
      refine wp_goto (pc' := 3) rfl rfl ?_
      refine ih (y + 1) _ (by omega) (by omega) (hS.put (by decide)) (fun j j0 j1 => ?_)
      by_cases hj : j = y
      · rw [hj, up_eq]
      · rw [up_at hj]
        exact hz j j0 (by omega)
set_option maxRecDepth 20000 in
set_option maxHeartbeats 4000000 in
theorem l_steps2 {w : Hp} {d : Nat} {fr to cl : Int} (hT0 : Stc w) (hc : CL (w 3 0) (w 3 1)) (hto : Cel (w 3 0) (w 3 1) to) (hfr : Cel (w 3 0) (w 3 1) fr) : ∀ (k : Nat) (h t : Int) (w1 : Hp), 0 ≤ h → h + k = 25 → Same w w1 WQ → BI (w 3 0) (w 3 1) (w 3 3) cl to (w1 48) (w1 49) h t 0 → (∀ x : Int, Cel (w 3 0) (w 3 1) x → w1 48 x < t) → WP SH (d + 2) 50 64 [some (vR 47), some (vR 3), some (vI fr), some (vI to), some (vI cl), some (vI t), some (vI h)] [] w1 (fun v w' => Same w w' WQ ∧ SP (w 3 0) (w 3 1) (w 3 3) cl to (w' 48) ∧ (∀ x : Int, Cel (w 3 0) (w 3 1) x → w' 48 x ≤ 25) ∧ v = some (vI (w' 48 fr))) := by
  intro k
  induction k with
  | zero =>
    intro h t w1 h0 hhk hS hB hU
    have hT := hT0.same hS (by decide)
    have e3 : w1 3 = w 3 := hS 3 (by decide)
    have hml := hc.mul
    have hml0 : w1 3 0 * w1 3 1 = w 3 0 * w 3 1 := by rw [e3]
    have htb := hB.2.1.2.2
    have hht := hB.2.1.2.1
    have hfd := hfr.dm hc
    have hc1 : CL (w1 3 0) (w1 3 1) := by rw [e3]; exact hc
    have hto1 : Cel (w1 3 0) (w1 3 1) to := by rw [e3]; exact hto
    refine wp_iload (pc' := 66) rfl rfl rfl ?_
    refine wp_iload (pc' := 68) rfl rfl rfl ?_
    refine wp_icmp_ge (pc' := 71) (pt := 102) rfl rfl rfl (fun q_1 => ?_) (fun q_1 => ?_)
    · skip
      refine wp_aload_n (pc' := 103) rfl rfl rfl (by decide) ?_
      refine wp_getR (r' := 48) (ci := 4) (k0 := 0) (pc' := 106) rfl rfl (by decide) (by first | assumption | rfl) (hT.get 62 rfl) ?_
      refine wp_iload_n (pc' := 107) rfl rfl rfl ?_
      refine wp_iaload (pc' := 108) rfl rfl (by first | assumption | rfl) (by omega) ?_
      refine wp_ret rfl rfl rfl ?_
      first
      | (exfalso; omega)
      | (have hhe : h = t := by omega
         exact ⟨hS, hB.done hc hhe, fun x hx => by have := hU x hx; omega, rfl⟩)
    · skip
      refine wp_iload (pc' := 73) rfl rfl rfl ?_
      refine wp_bipush (a := 25) (pc' := 75) rfl rfl rfl ?_
      refine wp_icmp_ge (pc' := 78) (pt := 102) rfl rfl rfl (fun q_2 => ?_) (fun q_2 => ?_)
      · skip
        refine wp_aload_n (pc' := 103) rfl rfl rfl (by decide) ?_
        refine wp_getR (r' := 48) (ci := 4) (k0 := 0) (pc' := 106) rfl rfl (by decide) (by first | assumption | rfl) (hT.get 62 rfl) ?_
        refine wp_iload_n (pc' := 107) rfl rfl rfl ?_
        refine wp_iaload (pc' := 108) rfl rfl (by first | assumption | rfl) (by omega) ?_
        refine wp_ret rfl rfl rfl ?_
        first
        | (exfalso; omega)
        | (have hhe : h = t := by omega
           exact ⟨hS, hB.done hc hhe, fun x hx => by have := hU x hx; omega, rfl⟩)
      · skip
        exfalso; omega
  | succ k ih =>
    intro h t w1 h0 hhk hS hB hU
    have hT := hT0.same hS (by decide)
    have e3 : w1 3 = w 3 := hS 3 (by decide)
    have hml := hc.mul
    have hml0 : w1 3 0 * w1 3 1 = w 3 0 * w 3 1 := by rw [e3]
    have htb := hB.2.1.2.2
    have hht := hB.2.1.2.1
    have hfd := hfr.dm hc
    have hc1 : CL (w1 3 0) (w1 3 1) := by rw [e3]; exact hc
    have hto1 : Cel (w1 3 0) (w1 3 1) to := by rw [e3]; exact hto
    refine wp_iload (pc' := 66) rfl rfl rfl ?_
    refine wp_iload (pc' := 68) rfl rfl rfl ?_
    refine wp_icmp_ge (pc' := 71) (pt := 102) rfl rfl rfl (fun q_1 => ?_) (fun q_1 => ?_)
    · skip
      refine wp_aload_n (pc' := 103) rfl rfl rfl (by decide) ?_
      refine wp_getR (r' := 48) (ci := 4) (k0 := 0) (pc' := 106) rfl rfl (by decide) (by first | assumption | rfl) (hT.get 62 rfl) ?_
      refine wp_iload_n (pc' := 107) rfl rfl rfl ?_
      refine wp_iaload (pc' := 108) rfl rfl (by first | assumption | rfl) (by omega) ?_
      refine wp_ret rfl rfl rfl ?_
      first
      | (exfalso; omega)
      | (have hhe : h = t := by omega
         exact ⟨hS, hB.done hc hhe, fun x hx => by have := hU x hx; omega, rfl⟩)
    · skip
      refine wp_iload (pc' := 73) rfl rfl rfl ?_
      refine wp_bipush (a := 25) (pc' := 75) rfl rfl rfl ?_
      refine wp_icmp_ge (pc' := 78) (pt := 102) rfl rfl rfl (fun q_2 => ?_) (fun q_2 => ?_)
      · skip
        refine wp_aload_n (pc' := 103) rfl rfl rfl (by decide) ?_
        refine wp_getR (r' := 48) (ci := 4) (k0 := 0) (pc' := 106) rfl rfl (by decide) (by first | assumption | rfl) (hT.get 62 rfl) ?_
        refine wp_iload_n (pc' := 107) rfl rfl rfl ?_
        refine wp_iaload (pc' := 108) rfl rfl (by first | assumption | rfl) (by omega) ?_
        refine wp_ret rfl rfl rfl ?_
        first
        | (exfalso; omega)
        | (have hhe : h = t := by omega
           exact ⟨hS, hB.done hc hhe, fun x hx => by have := hU x hx; omega, rfl⟩)
      · skip
        refine wp_aload_n (pc' := 79) rfl rfl rfl (by decide) ?_
        refine wp_aload_n (pc' := 80) rfl rfl rfl (by decide) ?_
        refine wp_aload_n (pc' := 81) rfl rfl rfl (by decide) ?_
        refine wp_getR (r' := 49) (ci := 4) (k0 := 1) (pc' := 84) rfl rfl (by decide) (by first | assumption | rfl) (hT.get 63 rfl) ?_
        refine wp_iload (pc' := 86) rfl rfl rfl ?_
        refine wp_iaload (pc' := 87) rfl rfl (by first | assumption | rfl) (by omega) ?_
        refine wp_iload (pc' := 89) rfl rfl rfl ?_
        refine wp_iload (pc' := 91) rfl rfl rfl ?_
        refine wp_call (pc' := 94) rfl rfl rfl rfl rfl ⟨Nat.le_of_ble_eq_true rfl, Nat.le_of_ble_eq_true rfl, Nat.le_of_ble_eq_true rfl, Nat.le_of_ble_eq_true rfl, Nat.le_of_ble_eq_true rfl⟩ rfl (c_Paths_reach (h := h) hT hc1 hto1 (by omega) rfl (by rw [e3]; exact hB) (by rw [e3]; exact hU)) ?_
        rintro v1 w2 ⟨t', hv1, hS2, hht2, hB2, hU2⟩
        rw [hv1]
        clear hv1 v1
        rw [e3] at hB2 hU2
        dsimp only [Option.toList, List.cons_append, List.nil_append, List.append_nil]
        refine wp_istore (pc' := 96) rfl rfl (Nat.le_of_ble_eq_true rfl) rfl ?_
        dsimp only [lset, lset2, List.set, List.getElem?_cons_zero, List.getElem?_cons_succ]
        refine wp_iinc (pc' := 99) rfl rfl rfl (inc_id (by omega) (by omega)) rfl ?_
        dsimp only [lset, lset2, List.set, List.getElem?_cons_zero, List.getElem?_cons_succ]
        refine wp_goto (pc' := 64) rfl rfl ?_
        exact ih (h + 1) _ w2 (by omega) (by omega) (hS.tr hS2) (hB2.next hht2) hU2
