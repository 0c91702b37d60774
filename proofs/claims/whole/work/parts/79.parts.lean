/-! parts -/
def Cnd (c l mt to fr x : Int) : Prop := x ≠ fr ∧ x ≠ to ∧ x ≠ mt ∧ NoW c l mt x to fr
def FCh (c l mt to fr : Int) (f : Int → Int) (m : Int) : Prop := ∀ x : Int, 0 ≤ x → x < m → (f x = 1 ∧ Cnd c l mt to fr x) ∨ (f x = 0 ∧ ¬ Cnd c l mt to fr x)
theorem orN_upd {f : Int → Int} {m : Nat} {v : Int} (hm : m ≤ 24) (h1 : v = 1) : orN (updA f m v) (m + 1) = iOr (orN f m) (iShl 1 m) := by
  show iOr (orN (updA f m v) m) (if updA f m v m = 1 then iShl 1 m else 0) = _
  rw [orN_congr (f := updA f m v) (g := f) (fun j a b => if_neg (by omega)), show updA f (m : Int) v (m : Int) = v from if_pos rfl, if_pos h1]
theorem orN_upd0 {f : Int → Int} {m : Nat} {v : Int} (hm : m ≤ 24) (h1 : v = 0) : orN (updA f m v) (m + 1) = orN f m := by
  show iOr (orN (updA f m v) m) (if updA f m v m = 1 then iShl 1 m else 0) = _
  rw [orN_congr (f := updA f m v) (g := f) (fun j a b => if_neg (by omega)), show updA f (m : Int) v (m : Int) = v from if_pos rfl, if_neg (by omega)]
  obtain ⟨n, h2, h3⟩ := orN_nat (f := f) (m := m) (by omega)
  have h4 : (2 : Nat) ^ m ≤ 2 ^ 24 := Nat.pow_le_pow_right (by decide) hm
  rw [show (2 : Nat) ^ 24 = 16777216 from rfl] at h4
  rw [h2, show (0 : Int) = ((0 : Nat) : Int) from rfl, iOr_nat (by omega) (by decide), Nat.or_zero]
theorem iOr_zero {f : Int → Int} {m : Nat} (hm : m ≤ 24) : iOr (orN f m) 0 = orN f m := by
  obtain ⟨n, h2, h3⟩ := orN_nat (f := f) (m := m) (by omega)
  have h4 : (2 : Nat) ^ m ≤ 2 ^ 24 := Nat.pow_le_pow_right (by decide) hm
  rw [show (2 : Nat) ^ 24 = 16777216 from rfl] at h4
  rw [h2, show (0 : Int) = ((0 : Nat) : Int) from rfl, iOr_nat (by omega) (by decide), Nat.or_zero]
theorem FCh.add {c l mt to fr v : Int} {f : Int → Int} {m : Nat} (h : FCh c l mt to fr f m) (hv : (v = 1 ∧ Cnd c l mt to fr m) ∨ (v = 0 ∧ ¬ Cnd c l mt to fr m)) : FCh c l mt to fr (updA f m v) ((m + 1 : Nat) : Int) := fun x x0 x1 => by
  unfold updA
  by_cases hx : x = m
  · rw [if_pos hx, hx]
    exact hv
  · rw [if_neg hx]
    exact h x x0 (by omega)
theorem FCh.eq {c l mt to fr : Int} {f g : Int → Int} {m : Nat} (h : FCh c l mt to fr f m) (h2 : FCh c l mt to fr g m) : orN f m = orN g m := orN_congr (fun j a b => by
  rcases h j a b with x | x <;> rcases h2 j a b with y | y
  · rw [x.1, y.1]
  · exact absurd x.2 y.2
  · exact absurd y.2 x.2
  · rw [x.1, y.1])
set_option maxRecDepth 20000 in
set_option maxHeartbeats 4000000 in
theorem l_parts {w : Hp} {d : Nat} {fr to : Int} (hT0 : Stc w) (hc : CL (w 3 0) (w 3 1)) (hfr : Cel (w 3 0) (w 3 1) fr) (hto : Cel (w 3 0) (w 3 1) to) : ∀ (k m : Nat) (y s : Int) (f : Int → Int) (w1 : Hp) (x5 : Option PV), y = m → m + k = (w 3 0 * w 3 1).toNat → s = orN f m → FCh (w 3 0) (w 3 1) (w 3 3) to fr f m → Same w w1 WQ → WP SH (d + 3) 111 34 [some (vR 0), some (vI fr), some (vI to), some (vI s), some (vI y), x5] [] w1 (fun v w' => Same w w' WQ ∧ ∃ f : Int → Int, v = some (vI (orN f (w 3 0 * w 3 1).toNat)) ∧ FCh (w 3 0) (w 3 1) (w 3 3) to fr f ((w 3 0 * w 3 1).toNat : Nat)) := by
  intro k
  induction k with
  | zero =>
    intro m y s f w1 x5 hy hmk hs hF hS
    have hT := hT0.same hS (by decide)
    have e3 : w1 3 = w 3 := hS 3 (by decide)
    have hml := hc.mul
    have hml0 : w1 3 0 * w1 3 1 = w 3 0 * w 3 1 := by rw [e3]
    have e33 : w1 3 3 = w 3 3 := by rw [e3]
    have hc1 : CL (w1 3 0) (w1 3 1) := by rw [e3]; exact hc
    have hfr1 : Cel (w1 3 0) (w1 3 1) fr := by rw [e3]; exact hfr
    have hto1 : Cel (w1 3 0) (w1 3 1) to := by rw [e3]; exact hto
    refine wp_iload (pc' := 36) rfl rfl rfl ?_
    refine wp_aload_n (pc' := 37) rfl rfl rfl (by decide) ?_
    refine wp_getR (r' := 3) (ci := 9) (k0 := 2) (pc' := 40) rfl rfl (by decide) (by first | assumption | rfl) (hT.get 2 rfl) ?_
    refine wp_call (pc' := 43) rfl rfl rfl rfl rfl ⟨Nat.le_of_ble_eq_true rfl, Nat.le_of_ble_eq_true rfl, Nat.le_of_ble_eq_true rfl, Nat.le_of_ble_eq_true rfl, Nat.le_of_ble_eq_true rfl⟩ rfl (c_Land_cells (by omega)) ?_
    intro v1 w9 hq1
    rw [hq1.1, hq1.2]
    clear hq1 v1 w9
    dsimp only [Option.toList, List.cons_append, List.nil_append, List.append_nil]
    refine wp_icmp_ge (pc' := 46) (pt := 114) rfl rfl rfl (fun q_1 => ?_) (fun q_1 => ?_)
    · skip
      refine wp_iload_n (pc' := 115) rfl rfl rfl ?_
      refine wp_ret rfl rfl rfl ?_
      obtain rfl : m = (w 3 0 * w 3 1).toNat := by omega
      exact ⟨hS, f, by rw [hs], hF⟩
    · skip
      exfalso; omega
  | succ k ih =>
    intro m y s f w1 x5 hy hmk hs hF hS
    have hT := hT0.same hS (by decide)
    have e3 : w1 3 = w 3 := hS 3 (by decide)
    have hml := hc.mul
    have hml0 : w1 3 0 * w1 3 1 = w 3 0 * w 3 1 := by rw [e3]
    have e33 : w1 3 3 = w 3 3 := by rw [e3]
    have hc1 : CL (w1 3 0) (w1 3 1) := by rw [e3]; exact hc
    have hfr1 : Cel (w1 3 0) (w1 3 1) fr := by rw [e3]; exact hfr
    have hto1 : Cel (w1 3 0) (w1 3 1) to := by rw [e3]; exact hto
    refine wp_iload (pc' := 36) rfl rfl rfl ?_
    refine wp_aload_n (pc' := 37) rfl rfl rfl (by decide) ?_
    refine wp_getR (r' := 3) (ci := 9) (k0 := 2) (pc' := 40) rfl rfl (by decide) (by first | assumption | rfl) (hT.get 2 rfl) ?_
    refine wp_call (pc' := 43) rfl rfl rfl rfl rfl ⟨Nat.le_of_ble_eq_true rfl, Nat.le_of_ble_eq_true rfl, Nat.le_of_ble_eq_true rfl, Nat.le_of_ble_eq_true rfl, Nat.le_of_ble_eq_true rfl⟩ rfl (c_Land_cells (by omega)) ?_
    intro v1 w9 hq1
    rw [hq1.1, hq1.2]
    clear hq1 v1 w9
    dsimp only [Option.toList, List.cons_append, List.nil_append, List.append_nil]
    refine wp_icmp_ge (pc' := 46) (pt := 114) rfl rfl rfl (fun q_1 => ?_) (fun q_1 => ?_)
    · skip
      exfalso; omega
    · skip
      refine wp_iload (pc' := 48) rfl rfl rfl ?_
      refine wp_iload_n (pc' := 49) rfl rfl rfl ?_
      refine wp_icmp_eq (pc' := 52) (pt := 74) rfl rfl rfl (fun q_2 => ?_) (fun q_2 => ?_)
      · skip
        refine wp_iconst (a := 0) (pc' := 75) rfl rfl rfl ?_
        refine wp_istore (pc' := 77) rfl rfl (Nat.le_of_ble_eq_true rfl) rfl ?_
        dsimp only [lset, lset2, List.set, List.getElem?_cons_zero, List.getElem?_cons_succ]
        refine wp_iload (pc' := 79) rfl rfl rfl ?_
        refine wp_if_eq (pc' := 82) (pt := 108) rfl rfl rfl (fun q_3 => ?_) (fun q_3 => absurd (by decide) q_3)
        refine wp_iinc (pc' := 111) rfl rfl rfl (inc_id (by omega) (by omega)) rfl ?_
        dsimp only [lset, lset2, List.set, List.getElem?_cons_zero, List.getElem?_cons_succ]
        refine wp_goto (pc' := 34) rfl rfl ?_
        subst hy
        exact ih (m + 1) _ _ (updA f m 0) w1 _ (by omega) (by omega) (by rw [orN_upd0 (by omega) rfl, hs]) (hF.add (Or.inr ⟨rfl, fun z => by have z1 := z.1; have z2 := z.2.1; have z3 := z.2.2.1; omega⟩)) hS
      · skip
        refine wp_iload (pc' := 54) rfl rfl rfl ?_
        refine wp_iload_n (pc' := 55) rfl rfl rfl ?_
        refine wp_icmp_eq (pc' := 58) (pt := 74) rfl rfl rfl (fun q_4 => ?_) (fun q_4 => ?_)
        · skip
          refine wp_iconst (a := 0) (pc' := 75) rfl rfl rfl ?_
          refine wp_istore (pc' := 77) rfl rfl (Nat.le_of_ble_eq_true rfl) rfl ?_
          dsimp only [lset, lset2, List.set, List.getElem?_cons_zero, List.getElem?_cons_succ]
          refine wp_iload (pc' := 79) rfl rfl rfl ?_
          refine wp_if_eq (pc' := 82) (pt := 108) rfl rfl rfl (fun q_5 => ?_) (fun q_5 => absurd (by decide) q_5)
          refine wp_iinc (pc' := 111) rfl rfl rfl (inc_id (by omega) (by omega)) rfl ?_
          dsimp only [lset, lset2, List.set, List.getElem?_cons_zero, List.getElem?_cons_succ]
          refine wp_goto (pc' := 34) rfl rfl ?_
          subst hy
          exact ih (m + 1) _ _ (updA f m 0) w1 _ (by omega) (by omega) (by rw [orN_upd0 (by omega) rfl, hs]) (hF.add (Or.inr ⟨rfl, fun z => by have z1 := z.1; have z2 := z.2.1; have z3 := z.2.2.1; omega⟩)) hS
        · skip
          refine wp_iload (pc' := 60) rfl rfl rfl ?_
          refine wp_aload_n (pc' := 61) rfl rfl rfl (by decide) ?_
          refine wp_getR (r' := 3) (ci := 9) (k0 := 2) (pc' := 64) rfl rfl (by decide) (by first | assumption | rfl) (hT.get 2 rfl) ?_
          refine wp_getI (ci := 3) (k0 := 3) (pc' := 67) rfl rfl (by decide) (by first | assumption | rfl) ?_
          refine wp_icmp_eq (pc' := 70) (pt := 74) rfl rfl rfl (fun q_6 => ?_) (fun q_6 => ?_)
          · skip
            refine wp_iconst (a := 0) (pc' := 75) rfl rfl rfl ?_
            refine wp_istore (pc' := 77) rfl rfl (Nat.le_of_ble_eq_true rfl) rfl ?_
            dsimp only [lset, lset2, List.set, List.getElem?_cons_zero, List.getElem?_cons_succ]
            refine wp_iload (pc' := 79) rfl rfl rfl ?_
            refine wp_if_eq (pc' := 82) (pt := 108) rfl rfl rfl (fun q_7 => ?_) (fun q_7 => absurd (by decide) q_7)
            refine wp_iinc (pc' := 111) rfl rfl rfl (inc_id (by omega) (by omega)) rfl ?_
            dsimp only [lset, lset2, List.set, List.getElem?_cons_zero, List.getElem?_cons_succ]
            refine wp_goto (pc' := 34) rfl rfl ?_
            subst hy
            exact ih (m + 1) _ _ (updA f m 0) w1 _ (by omega) (by omega) (by rw [orN_upd0 (by omega) rfl, hs]) (hF.add (Or.inr ⟨rfl, fun z => by have z1 := z.1; have z2 := z.2.1; have z3 := z.2.2.1; omega⟩)) hS
          · skip
            refine wp_iconst (a := 1) (pc' := 71) rfl rfl rfl ?_
            refine wp_goto (pc' := 75) rfl rfl ?_
            refine wp_istore (pc' := 77) rfl rfl (Nat.le_of_ble_eq_true rfl) rfl ?_
            dsimp only [lset, lset2, List.set, List.getElem?_cons_zero, List.getElem?_cons_succ]
            refine wp_iload (pc' := 79) rfl rfl rfl ?_
            refine wp_if_eq (pc' := 82) (pt := 108) rfl rfl rfl (fun q_8 => absurd q_8 (by decide)) (fun q_8 => ?_)
            refine wp_aload_n (pc' := 83) rfl rfl rfl (by decide) ?_
            refine wp_getR (r' := 47) (ci := 9) (k0 := 10) (pc' := 86) rfl rfl (by decide) (by first | assumption | rfl) (hT.get 10 rfl) ?_
            refine wp_aload_n (pc' := 87) rfl rfl rfl (by decide) ?_
            refine wp_getR (r' := 3) (ci := 9) (k0 := 2) (pc' := 90) rfl rfl (by decide) (by first | assumption | rfl) (hT.get 2 rfl) ?_
            refine wp_iload_n (pc' := 91) rfl rfl rfl ?_
            refine wp_iload_n (pc' := 92) rfl rfl rfl ?_
            refine wp_iload (pc' := 94) rfl rfl rfl ?_
            refine wp_call (pc' := 97) rfl rfl rfl rfl rfl ⟨Nat.le_of_ble_eq_true rfl, Nat.le_of_ble_eq_true rfl, Nat.le_of_ble_eq_true rfl, Nat.le_of_ble_eq_true rfl, Nat.le_of_ble_eq_true rfl⟩ rfl (c_Paths_steps hT hc1 hto1 hfr1) ?_
            rintro v1 w2 ⟨hS2, ⟨hv1, hmt⟩ | ⟨hf1, ht1, hSP, hub, hv1⟩⟩
            · skip
              rw [hv1]
              clear hv1 v1
              rw [e3] at hmt
              have hnw : NoW (w 3 0) (w 3 1) (w 3 3) y to fr := by
                rcases hmt with z | z
                · exact Or.inl z
                · exact Or.inr (Or.inl z)
              dsimp only [Option.toList, List.cons_append, List.nil_append, List.append_nil]
              refine wp_iconst (a := -1) (pc' := 98) rfl rfl rfl ?_
              refine wp_icmp_ne (pc' := 101) (pt := 108) rfl rfl rfl (fun q_9 => absurd q_9 (by decide)) (fun q_9 => ?_)
              refine wp_iload_n (pc' := 102) rfl rfl rfl ?_
              refine wp_iconst (a := 1) (pc' := 103) rfl rfl rfl ?_
              refine wp_iload (pc' := 105) rfl rfl rfl ?_
              refine wp_ishl (pc' := 106) rfl rfl rfl ?_
              refine wp_ior (pc' := 107) rfl rfl rfl ?_
              refine wp_istore_n (pc' := 108) rfl rfl (Nat.le_of_ble_eq_true rfl) rfl ?_
              dsimp only [lset, lset2, List.set, List.getElem?_cons_zero, List.getElem?_cons_succ]
              refine wp_iinc (pc' := 111) rfl rfl rfl (inc_id (by omega) (by omega)) rfl ?_
              dsimp only [lset, lset2, List.set, List.getElem?_cons_zero, List.getElem?_cons_succ]
              refine wp_goto (pc' := 34) rfl rfl ?_
              subst hy
              exact ih (m + 1) _ _ (updA f m 1) w2 _ (by omega) (by omega) (by rw [orN_upd (by omega) rfl, hs]) (hF.add (Or.inl ⟨rfl, by omega, by omega, by omega, hnw⟩)) (hS.tr hS2)
            · skip
              rw [hv1]
              clear hv1 v1
              rw [e3] at hf1 ht1 hSP
              have hnw := nw_cls hc hfr hf1 ht1 hSP
              dsimp only [Option.toList, List.cons_append, List.nil_append, List.append_nil]
              refine wp_iconst (a := -1) (pc' := 98) rfl rfl rfl ?_
              refine wp_icmp_ne (pc' := 101) (pt := 108) rfl rfl rfl (fun q_10 => ?_) (fun q_10 => ?_)
              · skip
                refine wp_iinc (pc' := 111) rfl rfl rfl (inc_id (by omega) (by omega)) rfl ?_
                dsimp only [lset, lset2, List.set, List.getElem?_cons_zero, List.getElem?_cons_succ]
                refine wp_goto (pc' := 34) rfl rfl ?_
                subst hy
                first
                | (have hn2 : NoW (w 3 0) (w 3 1) (w 3 3) (m : Int) to fr := hnw.1 (by omega)
                   exact ih (m + 1) _ _ (updA f m 1) w2 _ (by omega) (by omega) (by rw [orN_upd (by omega) rfl, hs]) (hF.add (Or.inl ⟨rfl, by omega, by omega, by omega, hn2⟩)) (hS.tr hS2))
                | (exact ih (m + 1) _ _ (updA f m 0) w2 _ (by omega) (by omega) (by rw [orN_upd0 (by omega) rfl, hs]) (hF.add (Or.inr ⟨rfl, fun z => by have := hnw.2 z.2.2.2; omega⟩)) (hS.tr hS2))
              · skip
                refine wp_iload_n (pc' := 102) rfl rfl rfl ?_
                refine wp_iconst (a := 1) (pc' := 103) rfl rfl rfl ?_
                refine wp_iload (pc' := 105) rfl rfl rfl ?_
                refine wp_ishl (pc' := 106) rfl rfl rfl ?_
                refine wp_ior (pc' := 107) rfl rfl rfl ?_
                refine wp_istore_n (pc' := 108) rfl rfl (Nat.le_of_ble_eq_true rfl) rfl ?_
                dsimp only [lset, lset2, List.set, List.getElem?_cons_zero, List.getElem?_cons_succ]
                refine wp_iinc (pc' := 111) rfl rfl rfl (inc_id (by omega) (by omega)) rfl ?_
                dsimp only [lset, lset2, List.set, List.getElem?_cons_zero, List.getElem?_cons_succ]
                refine wp_goto (pc' := 34) rfl rfl ?_
                subst hy
                first
                | (have hn2 : NoW (w 3 0) (w 3 1) (w 3 3) (m : Int) to fr := hnw.1 (by omega)
                   exact ih (m + 1) _ _ (updA f m 1) w2 _ (by omega) (by omega) (by rw [orN_upd (by omega) rfl, hs]) (hF.add (Or.inl ⟨rfl, by omega, by omega, by omega, hn2⟩)) (hS.tr hS2))
                | (exact ih (m + 1) _ _ (updA f m 0) w2 _ (by omega) (by omega) (by rw [orN_upd0 (by omega) rfl, hs]) (hF.add (Or.inr ⟨rfl, fun z => by have := hnw.2 z.2.2.2; omega⟩)) (hS.tr hS2))
set_option maxRecDepth 20000 in
set_option maxHeartbeats 4000000 in
theorem l_Mparts {w : Hp} {d : Nat} {fr to : Int} (hT0 : Stc w) (hc : CL (w 100 11) (w 100 12)) (hfr : Cel (w 100 11) (w 100 12) fr) (hto : Cel (w 100 11) (w 100 12) to) : ∀ (k m : Nat) (y s : Int) (f : Int → Int) (w1 : Hp), y = m → m + k = (w 100 11 * w 100 12).toNat → s = orN f m → FCh (w 100 11) (w 100 12) (w 109 0) to fr f m → Same w w1 [121] → WP SH (d + 2) 218 28 [some (vR 100), some (vI fr), some (vI to), some (vI s), some (vI y)] [] w1 (fun v w' => Same w w' [121] ∧ ∃ f : Int → Int, v = some (vI (orN f (w 100 11 * w 100 12).toNat)) ∧ FCh (w 100 11) (w 100 12) (w 109 0) to fr f ((w 100 11 * w 100 12).toNat : Nat)) := by
  intro k
  induction k with
  | zero =>
    intro m y s f w1 hy hmk hs hF hS
    have hT := hT0.same hS (by decide)
    have e1 : w1 100 = w 100 := hS 100 (by decide)
    have e9 : w1 109 = w 109 := hS 109 (by decide)
    have e90 : w1 109 0 = w 109 0 := by rw [e9]
    have hml := hc.mul
    have hml0 : w1 100 11 * w1 100 12 = w 100 11 * w 100 12 := by rw [e1]
    have hfd := hfr.dm hc
    refine wp_iload (pc' := 30) rfl rfl rfl ?_
    refine wp_aload_n (pc' := 31) rfl rfl rfl (by decide) ?_
    refine wp_getI (ci := 10) (k0 := 11) (pc' := 34) rfl rfl (by decide) (by first | assumption | rfl) ?_
    refine wp_aload_n (pc' := 35) rfl rfl rfl (by decide) ?_
    refine wp_getI (ci := 10) (k0 := 12) (pc' := 38) rfl rfl (by decide) (by first | assumption | rfl) ?_
    refine wp_imul (pc' := 39) rfl rfl (by first | exact w32_id (by omega) (by omega) | rfl) ?_
    refine wp_icmp_ge (pc' := 42) (pt := 100) rfl rfl rfl (fun q_1 => ?_) (fun q_1 => ?_)
    · skip
      refine wp_iload_n (pc' := 101) rfl rfl rfl ?_
      refine wp_ret rfl rfl rfl ?_
      obtain rfl : m = (w 100 11 * w 100 12).toNat := by omega
      exact ⟨hS, f, by rw [hs], hF⟩
    · skip
      exfalso; omega
  | succ k ih =>
    intro m y s f w1 hy hmk hs hF hS
    have hT := hT0.same hS (by decide)
    have e1 : w1 100 = w 100 := hS 100 (by decide)
    have e9 : w1 109 = w 109 := hS 109 (by decide)
    have e90 : w1 109 0 = w 109 0 := by rw [e9]
    have hml := hc.mul
    have hml0 : w1 100 11 * w1 100 12 = w 100 11 * w 100 12 := by rw [e1]
    have hfd := hfr.dm hc
    refine wp_iload (pc' := 30) rfl rfl rfl ?_
    refine wp_aload_n (pc' := 31) rfl rfl rfl (by decide) ?_
    refine wp_getI (ci := 10) (k0 := 11) (pc' := 34) rfl rfl (by decide) (by first | assumption | rfl) ?_
    refine wp_aload_n (pc' := 35) rfl rfl rfl (by decide) ?_
    refine wp_getI (ci := 10) (k0 := 12) (pc' := 38) rfl rfl (by decide) (by first | assumption | rfl) ?_
    refine wp_imul (pc' := 39) rfl rfl (by first | exact w32_id (by omega) (by omega) | rfl) ?_
    refine wp_icmp_ge (pc' := 42) (pt := 100) rfl rfl rfl (fun q_1 => ?_) (fun q_1 => ?_)
    · skip
      exfalso; omega
    · skip
      refine wp_iload (pc' := 44) rfl rfl rfl ?_
      refine wp_iload_n (pc' := 45) rfl rfl rfl ?_
      refine wp_icmp_eq (pc' := 48) (pt := 94) rfl rfl rfl (fun q_2 => ?_) (fun q_2 => ?_)
      · skip
        refine wp_iinc (pc' := 97) rfl rfl rfl (inc_id (by omega) (by omega)) rfl ?_
        dsimp only [lset, lset2, List.set, List.getElem?_cons_zero, List.getElem?_cons_succ]
        refine wp_goto (pc' := 28) rfl rfl ?_
        subst hy
        exact ih (m + 1) _ _ (updA f m 0) w1 (by omega) (by omega) (by rw [orN_upd0 (by omega) rfl, hs]) (hF.add (Or.inr ⟨rfl, fun z => by have z1 := z.1; have z2 := z.2.1; have z3 := z.2.2.1; omega⟩)) hS
      · skip
        refine wp_iload (pc' := 50) rfl rfl rfl ?_
        refine wp_iload_n (pc' := 51) rfl rfl rfl ?_
        refine wp_icmp_eq (pc' := 54) (pt := 94) rfl rfl rfl (fun q_3 => ?_) (fun q_3 => ?_)
        · skip
          refine wp_iinc (pc' := 97) rfl rfl rfl (inc_id (by omega) (by omega)) rfl ?_
          dsimp only [lset, lset2, List.set, List.getElem?_cons_zero, List.getElem?_cons_succ]
          refine wp_goto (pc' := 28) rfl rfl ?_
          subst hy
          exact ih (m + 1) _ _ (updA f m 0) w1 (by omega) (by omega) (by rw [orN_upd0 (by omega) rfl, hs]) (hF.add (Or.inr ⟨rfl, fun z => by have z1 := z.1; have z2 := z.2.1; have z3 := z.2.2.1; omega⟩)) hS
        · skip
          refine wp_iload (pc' := 56) rfl rfl rfl ?_
          refine wp_aload_n (pc' := 57) rfl rfl rfl (by decide) ?_
          refine wp_getR (r' := 109) (ci := 10) (k0 := 15) (pc' := 60) rfl rfl (by decide) (by first | assumption | rfl) (hT.get 107 rfl) ?_
          refine wp_iconst (a := 0) (pc' := 61) rfl rfl rfl ?_
          refine wp_iaload (pc' := 62) rfl rfl (by first | assumption | rfl) (by omega) ?_
          refine wp_icmp_eq (pc' := 65) (pt := 94) rfl rfl rfl (fun q_4 => ?_) (fun q_4 => ?_)
          · skip
            refine wp_iinc (pc' := 97) rfl rfl rfl (inc_id (by omega) (by omega)) rfl ?_
            dsimp only [lset, lset2, List.set, List.getElem?_cons_zero, List.getElem?_cons_succ]
            refine wp_goto (pc' := 28) rfl rfl ?_
            subst hy
            exact ih (m + 1) _ _ (updA f m 0) w1 (by omega) (by omega) (by rw [orN_upd0 (by omega) rfl, hs]) (hF.add (Or.inr ⟨rfl, fun z => by have z1 := z.1; have z2 := z.2.1; have z3 := z.2.2.1; omega⟩)) hS
          · skip
            refine wp_aload_n (pc' := 66) rfl rfl rfl (by decide) ?_
            refine wp_iload_n (pc' := 67) rfl rfl rfl ?_
            refine wp_iload (pc' := 69) rfl rfl rfl ?_
            refine wp_call (pc' := 72) rfl rfl rfl rfl rfl ⟨Nat.le_of_ble_eq_true rfl, Nat.le_of_ble_eq_true rfl, Nat.le_of_ble_eq_true rfl, Nat.le_of_ble_eq_true rfl, Nat.le_of_ble_eq_true rfl⟩ rfl (c_Mod_laySteps hT (by rw [e1]; exact hc) (by rw [e1]; exact hto)) ?_
            rintro v1 w2 ⟨hv1, hS2, A, hRA, hKA, hSA⟩
            rw [hv1]
            clear hv1 v1
            rw [e1] at hRA
            rw [e1, e9] at hKA hSA
            have hnw := nw_ref hc hfr hKA hSA
            have hrf := hRA fr hfr
            have hkb := hKA.1 fr hfr
            have hT := hT.same hS2 (by decide)
            dsimp only [Option.toList, List.cons_append, List.nil_append, List.append_nil]
            refine wp_iload_n (pc' := 73) rfl rfl rfl ?_
            refine wp_aload_n (pc' := 74) rfl rfl rfl (by decide) ?_
            refine wp_getR (r' := 121) (ci := 10) (k0 := 31) (pc' := 77) rfl rfl (by decide) (by first | assumption | rfl) (hT.get 119 rfl) ?_
            refine wp_iload_n (pc' := 78) rfl rfl rfl ?_
            refine wp_iaload (pc' := 79) rfl rfl (by first | assumption | rfl) (by omega) ?_
            refine wp_ldc (a := 1000000) (pc' := 81) rfl rfl rfl ?_
            refine wp_icmp_lt (pc' := 84) (pt := 91) rfl rfl rfl (fun q_5 => ?_) (fun q_5 => ?_)
            · skip
              refine wp_iconst (a := 0) (pc' := 92) rfl rfl rfl ?_
              refine wp_ior (pc' := 93) rfl rfl rfl ?_
              refine wp_istore_n (pc' := 94) rfl rfl (Nat.le_of_ble_eq_true rfl) rfl ?_
              dsimp only [lset, lset2, List.set, List.getElem?_cons_zero, List.getElem?_cons_succ]
              refine wp_iinc (pc' := 97) rfl rfl rfl (inc_id (by omega) (by omega)) rfl ?_
              dsimp only [lset, lset2, List.set, List.getElem?_cons_zero, List.getElem?_cons_succ]
              refine wp_goto (pc' := 28) rfl rfl ?_
              subst hy
              by_cases hn : A fr = -1
              · rw [if_pos hn] at hrf
                have hn2 := hnw.1 hn
                first
                | (exfalso; omega)
                | exact ih (m + 1) _ _ (updA f m 1) w2 (by omega) (by omega) (by rw [orN_upd (by omega) rfl, hs]) (hF.add (Or.inl ⟨rfl, by omega, by omega, by omega, hn2⟩)) (hS.tr hS2)
              · rw [if_neg hn] at hrf
                have hkb2 := hkb.2 (by omega)
                first
                | (exfalso; omega)
                | exact ih (m + 1) _ _ (updA f m 0) w2 (by omega) (by omega) (by rw [orN_upd0 (by omega) rfl, hs, iOr_zero (by omega)]) (hF.add (Or.inr ⟨rfl, fun z => hn (hnw.2 z.2.2.2)⟩)) (hS.tr hS2)
            · skip
              refine wp_iconst (a := 1) (pc' := 85) rfl rfl rfl ?_
              refine wp_iload (pc' := 87) rfl rfl rfl ?_
              refine wp_ishl (pc' := 88) rfl rfl rfl ?_
              refine wp_goto (pc' := 92) rfl rfl ?_
              refine wp_ior (pc' := 93) rfl rfl rfl ?_
              refine wp_istore_n (pc' := 94) rfl rfl (Nat.le_of_ble_eq_true rfl) rfl ?_
              dsimp only [lset, lset2, List.set, List.getElem?_cons_zero, List.getElem?_cons_succ]
              refine wp_iinc (pc' := 97) rfl rfl rfl (inc_id (by omega) (by omega)) rfl ?_
              dsimp only [lset, lset2, List.set, List.getElem?_cons_zero, List.getElem?_cons_succ]
              refine wp_goto (pc' := 28) rfl rfl ?_
              subst hy
              by_cases hn : A fr = -1
              · rw [if_pos hn] at hrf
                have hn2 := hnw.1 hn
                first
                | (exfalso; omega)
                | exact ih (m + 1) _ _ (updA f m 1) w2 (by omega) (by omega) (by rw [orN_upd (by omega) rfl, hs]) (hF.add (Or.inl ⟨rfl, by omega, by omega, by omega, hn2⟩)) (hS.tr hS2)
              · rw [if_neg hn] at hrf
                have hkb2 := hkb.2 (by omega)
                first
                | (exfalso; omega)
                | exact ih (m + 1) _ _ (updA f m 0) w2 (by omega) (by omega) (by rw [orN_upd0 (by omega) rfl, hs, iOr_zero (by omega)]) (hF.add (Or.inr ⟨rfl, fun z => hn (hnw.2 z.2.2.2)⟩)) (hS.tr hS2)
set_option maxRecDepth 20000 in
set_option maxHeartbeats 4000000 in
theorem p_parts {w : Hp} {d : Nat} {fr : Int} {to : Int} (hI : Inv w) : WP SH (d + 9) 111 0 [some (vR 0), some (vI fr), some (vI to), none, none, none] [] w (fun v0 w1 => ∃ a, v0 = some (vI a) ∧ w1 (-2) = w (-2) ∧ WP SH (d + 9) 218 0 [some (vR 100), some (vI fr), some (vI to), none, none] [] w1 (fun v2 w2 => v2 = some (vI a) ∧ w2 (-2) = w1 (-2) ∧ Inv w2)) := by
  obtain ⟨hT, hRO, hIF, hITo, hIR, hIT, hIL, hIK⟩ := id hI
  obtain ⟨hn25, b11, b12, b10, hn6, hem, m0, m1, m2, m23, hyr, hdd, hpre⟩ := hI.base
  have hmm : w 100 11 * w 100 12 = w 3 0 * w 3 1 := by rw [b11, b12]
  refine wp_aload_n (pc' := 1) rfl rfl rfl (by decide) ?_
  refine wp_getR (r' := 3) (ci := 9) (k0 := 2) (pc' := 4) rfl rfl (by decide) (by first | assumption | rfl) (hT.get 2 rfl) ?_
  refine wp_iload_n (pc' := 5) rfl rfl rfl ?_
  refine wp_call (pc' := 8) rfl rfl rfl rfl rfl ⟨Nat.le_of_ble_eq_true rfl, Nat.le_of_ble_eq_true rfl, Nat.le_of_ble_eq_true rfl, Nat.le_of_ble_eq_true rfl, Nat.le_of_ble_eq_true rfl⟩ rfl (c_Land_hasCell hn25) ?_
  rintro v1 w9 ⟨hw9, ⟨hv1, hxf⟩ | ⟨hv1, hxf⟩⟩
  · skip
    rw [hv1, hw9]
    clear hv1 hw9 v1 w9
    dsimp only [Option.toList, List.cons_append, List.nil_append, List.append_nil]
    refine wp_if_eq (pc' := 11) (pt := 27) rfl rfl rfl (fun q_1 => absurd q_1 (by decide)) (fun q_1 => ?_)
    refine wp_aload_n (pc' := 12) rfl rfl rfl (by decide) ?_
    refine wp_getR (r' := 3) (ci := 9) (k0 := 2) (pc' := 15) rfl rfl (by decide) (by first | assumption | rfl) (hT.get 2 rfl) ?_
    refine wp_iload_n (pc' := 16) rfl rfl rfl ?_
    refine wp_call (pc' := 19) rfl rfl rfl rfl rfl ⟨Nat.le_of_ble_eq_true rfl, Nat.le_of_ble_eq_true rfl, Nat.le_of_ble_eq_true rfl, Nat.le_of_ble_eq_true rfl, Nat.le_of_ble_eq_true rfl⟩ rfl (c_Land_hasCell hn25) ?_
    rintro v1 w9 ⟨hw9, ⟨hv1, hxt⟩ | ⟨hv1, hxt⟩⟩
    · skip
      rw [hv1, hw9]
      clear hv1 hw9 v1 w9
      have hn0 : w 3 2 ≠ 0 := fun hz0 => by
        have hzz : w 3 0 * w 3 1 = 0 := by rw [hem.2 hz0, Int.zero_mul]
        omega
      have hpr := hpre hn0
      dsimp only [Option.toList, List.cons_append, List.nil_append, List.append_nil]
      refine wp_if_eq (pc' := 22) (pt := 27) rfl rfl rfl (fun q_2 => absurd q_2 (by decide)) (fun q_2 => ?_)
      refine wp_iload_n (pc' := 23) rfl rfl rfl ?_
      refine wp_iload_n (pc' := 24) rfl rfl rfl ?_
      refine wp_icmp_ne (pc' := 27) (pt := 29) rfl rfl rfl (fun q_3 => ?_) (fun q_3 => ?_)
      · skip
        refine wp_iconst (a := 0) (pc' := 30) rfl rfl rfl ?_
        refine wp_istore_n (pc' := 31) rfl rfl (Nat.le_of_ble_eq_true rfl) rfl ?_
        dsimp only [lset, lset2, List.set, List.getElem?_cons_zero, List.getElem?_cons_succ]
        refine wp_iconst (a := 0) (pc' := 32) rfl rfl rfl ?_
        refine wp_istore (pc' := 34) rfl rfl (Nat.le_of_ble_eq_true rfl) rfl ?_
        dsimp only [lset, lset2, List.set, List.getElem?_cons_zero, List.getElem?_cons_succ]
        refine (l_parts hT hpr.1.1 hxf hxt (w 3 0 * w 3 1).toNat 0 _ _ (fun _ => 0) w _ rfl (by omega) rfl (fun x a b => absurd b (by omega)) (Same.rf _ _)).mono (fun v w1 hq => ?_)
        obtain ⟨hS1, f1, hv1, hF1⟩ := hq
        refine ⟨_, hv1, hS1 (-2) (by decide), ?_⟩
        have hQ1 : SameF w w1 LQ FQ := qry (hS1.F []) (by decide) (by decide)
        obtain ⟨hT, hr1, hl1, hm1, e31, e41, e51, e61, g111, g121, g101, g71, g81, g91, hx1⟩ := vw hI hn0 hQ1
        refine wp_aload_n (pc' := 1) rfl rfl rfl (by decide) ?_
        refine wp_iload_n (pc' := 2) rfl rfl rfl ?_
        refine wp_call (pc' := 5) rfl rfl rfl rfl rfl ⟨Nat.le_of_ble_eq_true rfl, Nat.le_of_ble_eq_true rfl, Nat.le_of_ble_eq_true rfl, Nat.le_of_ble_eq_true rfl, Nat.le_of_ble_eq_true rfl⟩ rfl (c_Mod_isCell (by rw [g111, g121]; exact hn25)) ?_
        rintro v1 w9 ⟨hw9, ⟨hv1, hc1⟩ | ⟨hv1, hc1⟩⟩
        · skip
          rw [hv1, hw9]
          clear hv1 hw9 v1 w9
          rw [g111, g121] at hc1
          dsimp only [Option.toList, List.cons_append, List.nil_append, List.append_nil]
          refine wp_if_eq (pc' := 8) (pt := 21) rfl rfl rfl (fun q_54 => absurd q_54 (by decide)) (fun q_54 => ?_)
          refine wp_aload_n (pc' := 9) rfl rfl rfl (by decide) ?_
          refine wp_iload_n (pc' := 10) rfl rfl rfl ?_
          refine wp_call (pc' := 13) rfl rfl rfl rfl rfl ⟨Nat.le_of_ble_eq_true rfl, Nat.le_of_ble_eq_true rfl, Nat.le_of_ble_eq_true rfl, Nat.le_of_ble_eq_true rfl, Nat.le_of_ble_eq_true rfl⟩ rfl (c_Mod_isCell (by rw [g111, g121]; exact hn25)) ?_
          rintro v1 w9 ⟨hw9, ⟨hv1, hc2⟩ | ⟨hv1, hc2⟩⟩
          · skip
            rw [hv1, hw9]
            clear hv1 hw9 v1 w9
            rw [g111, g121] at hc2
            dsimp only [Option.toList, List.cons_append, List.nil_append, List.append_nil]
            refine wp_if_eq (pc' := 16) (pt := 21) rfl rfl rfl (fun q_55 => absurd q_55 (by decide)) (fun q_55 => ?_)
            refine wp_iload_n (pc' := 17) rfl rfl rfl ?_
            refine wp_iload_n (pc' := 18) rfl rfl rfl ?_
            refine wp_icmp_ne (pc' := 21) (pt := 23) rfl rfl rfl (fun q_56 => ?_) (fun q_56 => ?_)
            · skip
              refine wp_iconst (a := 0) (pc' := 24) rfl rfl rfl ?_
              refine wp_istore_n (pc' := 25) rfl rfl (Nat.le_of_ble_eq_true rfl) rfl ?_
              dsimp only [lset, lset2, List.set, List.getElem?_cons_zero, List.getElem?_cons_succ]
              refine wp_iconst (a := 0) (pc' := 26) rfl rfl rfl ?_
              refine wp_istore (pc' := 28) rfl rfl (Nat.le_of_ble_eq_true rfl) rfl ?_
              dsimp only [lset, lset2, List.set, List.getElem?_cons_zero, List.getElem?_cons_succ]
              refine (l_Mparts (w := w1) hT hm1.1 (by rw [g111, g121]; exact hxf) (by rw [g111, g121]; exact hxt) (w1 100 11 * w1 100 12).toNat 0 _ _ (fun _ => 0) w1 rfl (by omega) rfl (fun x a b => absurd b (by omega)) (Same.rf _ _)).mono (fun v2 w2 hq2 => ?_)
              obtain ⟨hS2, f2, hv2, hF2⟩ := hq2
              rw [g111, g121] at hv2
              rw [g111, g121, g91, m0] at hF2
              refine ⟨by rw [hv2, hF1.eq hF2], hS2 (-2) (by decide), hI.query (w' := w2) (hQ1.tr (qry (hS2.F []) (by decide) (by decide))) ?_⟩
              rw [hS2 0 (by decide), hS2 100 (by decide), hS1 0 (by decide), hS1 100 (by decide)]
              exact hITo
            · skip
              exfalso; omega
          · skip
            rw [hv1, hw9]
            clear hv1 hw9 v1 w9
            rw [g111, g121] at hc2
            dsimp only [Option.toList, List.cons_append, List.nil_append, List.append_nil]
            refine wp_if_eq (pc' := 16) (pt := 21) rfl rfl rfl (fun q_57 => ?_) (fun q_57 => absurd (by decide) q_57)
            exfalso; omega
        · skip
          rw [hv1, hw9]
          clear hv1 hw9 v1 w9
          rw [g111, g121] at hc1
          dsimp only [Option.toList, List.cons_append, List.nil_append, List.append_nil]
          refine wp_if_eq (pc' := 8) (pt := 21) rfl rfl rfl (fun q_58 => ?_) (fun q_58 => absurd (by decide) q_58)
          exfalso; omega
      · skip
        refine wp_iconst (a := -1) (pc' := 28) rfl rfl rfl ?_
        refine wp_ret rfl rfl rfl ?_
        refine ⟨_, rfl, ?_, ?_⟩
        · rfl
        refine wp_aload_n (pc' := 1) rfl rfl rfl (by decide) ?_
        refine wp_iload_n (pc' := 2) rfl rfl rfl ?_
        refine wp_call (pc' := 5) rfl rfl rfl rfl rfl ⟨Nat.le_of_ble_eq_true rfl, Nat.le_of_ble_eq_true rfl, Nat.le_of_ble_eq_true rfl, Nat.le_of_ble_eq_true rfl, Nat.le_of_ble_eq_true rfl⟩ rfl (c_Mod_isCell (by omega)) ?_
        rintro v1 w9 ⟨hw9, ⟨hv1, hc1⟩ | ⟨hv1, hc1⟩⟩
        · skip
          rw [hv1, hw9]
          clear hv1 hw9 v1 w9
          dsimp only [Option.toList, List.cons_append, List.nil_append, List.append_nil]
          refine wp_if_eq (pc' := 8) (pt := 21) rfl rfl rfl (fun q_109 => absurd q_109 (by decide)) (fun q_109 => ?_)
          refine wp_aload_n (pc' := 9) rfl rfl rfl (by decide) ?_
          refine wp_iload_n (pc' := 10) rfl rfl rfl ?_
          refine wp_call (pc' := 13) rfl rfl rfl rfl rfl ⟨Nat.le_of_ble_eq_true rfl, Nat.le_of_ble_eq_true rfl, Nat.le_of_ble_eq_true rfl, Nat.le_of_ble_eq_true rfl, Nat.le_of_ble_eq_true rfl⟩ rfl (c_Mod_isCell (by omega)) ?_
          rintro v1 w9 ⟨hw9, ⟨hv1, hc2⟩ | ⟨hv1, hc2⟩⟩
          · skip
            rw [hv1, hw9]
            clear hv1 hw9 v1 w9
            dsimp only [Option.toList, List.cons_append, List.nil_append, List.append_nil]
            refine wp_if_eq (pc' := 16) (pt := 21) rfl rfl rfl (fun q_110 => absurd q_110 (by decide)) (fun q_110 => ?_)
            refine wp_iload_n (pc' := 17) rfl rfl rfl ?_
            refine wp_iload_n (pc' := 18) rfl rfl rfl ?_
            refine wp_icmp_ne (pc' := 21) (pt := 23) rfl rfl rfl (fun q_111 => ?_) (fun q_111 => ?_)
            · skip
              exfalso; omega
            · skip
              refine wp_iconst (a := -1) (pc' := 22) rfl rfl rfl ?_
              refine wp_ret rfl rfl rfl ?_
              first
              | (exfalso; omega)
              | exact ⟨rfl, rfl, hI⟩
          · skip
            rw [hv1, hw9]
            clear hv1 hw9 v1 w9
            dsimp only [Option.toList, List.cons_append, List.nil_append, List.append_nil]
            refine wp_if_eq (pc' := 16) (pt := 21) rfl rfl rfl (fun q_112 => ?_) (fun q_112 => absurd (by decide) q_112)
            refine wp_iconst (a := -1) (pc' := 22) rfl rfl rfl ?_
            refine wp_ret rfl rfl rfl ?_
            first
            | (exfalso; omega)
            | exact ⟨rfl, rfl, hI⟩
        · skip
          rw [hv1, hw9]
          clear hv1 hw9 v1 w9
          dsimp only [Option.toList, List.cons_append, List.nil_append, List.append_nil]
          refine wp_if_eq (pc' := 8) (pt := 21) rfl rfl rfl (fun q_113 => ?_) (fun q_113 => absurd (by decide) q_113)
          refine wp_iconst (a := -1) (pc' := 22) rfl rfl rfl ?_
          refine wp_ret rfl rfl rfl ?_
          first
          | (exfalso; omega)
          | exact ⟨rfl, rfl, hI⟩
    · skip
      rw [hv1, hw9]
      clear hv1 hw9 v1 w9
      dsimp only [Option.toList, List.cons_append, List.nil_append, List.append_nil]
      refine wp_if_eq (pc' := 22) (pt := 27) rfl rfl rfl (fun q_114 => ?_) (fun q_114 => absurd (by decide) q_114)
      refine wp_iconst (a := -1) (pc' := 28) rfl rfl rfl ?_
      refine wp_ret rfl rfl rfl ?_
      refine ⟨_, rfl, ?_, ?_⟩
      · rfl
      refine wp_aload_n (pc' := 1) rfl rfl rfl (by decide) ?_
      refine wp_iload_n (pc' := 2) rfl rfl rfl ?_
      refine wp_call (pc' := 5) rfl rfl rfl rfl rfl ⟨Nat.le_of_ble_eq_true rfl, Nat.le_of_ble_eq_true rfl, Nat.le_of_ble_eq_true rfl, Nat.le_of_ble_eq_true rfl, Nat.le_of_ble_eq_true rfl⟩ rfl (c_Mod_isCell (by omega)) ?_
      rintro v1 w9 ⟨hw9, ⟨hv1, hc1⟩ | ⟨hv1, hc1⟩⟩
      · skip
        rw [hv1, hw9]
        clear hv1 hw9 v1 w9
        dsimp only [Option.toList, List.cons_append, List.nil_append, List.append_nil]
        refine wp_if_eq (pc' := 8) (pt := 21) rfl rfl rfl (fun q_165 => absurd q_165 (by decide)) (fun q_165 => ?_)
        refine wp_aload_n (pc' := 9) rfl rfl rfl (by decide) ?_
        refine wp_iload_n (pc' := 10) rfl rfl rfl ?_
        refine wp_call (pc' := 13) rfl rfl rfl rfl rfl ⟨Nat.le_of_ble_eq_true rfl, Nat.le_of_ble_eq_true rfl, Nat.le_of_ble_eq_true rfl, Nat.le_of_ble_eq_true rfl, Nat.le_of_ble_eq_true rfl⟩ rfl (c_Mod_isCell (by omega)) ?_
        rintro v1 w9 ⟨hw9, ⟨hv1, hc2⟩ | ⟨hv1, hc2⟩⟩
        · skip
          rw [hv1, hw9]
          clear hv1 hw9 v1 w9
          dsimp only [Option.toList, List.cons_append, List.nil_append, List.append_nil]
          refine wp_if_eq (pc' := 16) (pt := 21) rfl rfl rfl (fun q_166 => absurd q_166 (by decide)) (fun q_166 => ?_)
          refine wp_iload_n (pc' := 17) rfl rfl rfl ?_
          refine wp_iload_n (pc' := 18) rfl rfl rfl ?_
          refine wp_icmp_ne (pc' := 21) (pt := 23) rfl rfl rfl (fun q_167 => ?_) (fun q_167 => ?_)
          · skip
            exfalso; omega
          · skip
            refine wp_iconst (a := -1) (pc' := 22) rfl rfl rfl ?_
            refine wp_ret rfl rfl rfl ?_
            first
            | (exfalso; omega)
            | exact ⟨rfl, rfl, hI⟩
        · skip
          rw [hv1, hw9]
          clear hv1 hw9 v1 w9
          dsimp only [Option.toList, List.cons_append, List.nil_append, List.append_nil]
          refine wp_if_eq (pc' := 16) (pt := 21) rfl rfl rfl (fun q_168 => ?_) (fun q_168 => absurd (by decide) q_168)
          refine wp_iconst (a := -1) (pc' := 22) rfl rfl rfl ?_
          refine wp_ret rfl rfl rfl ?_
          first
          | (exfalso; omega)
          | exact ⟨rfl, rfl, hI⟩
      · skip
        rw [hv1, hw9]
        clear hv1 hw9 v1 w9
        dsimp only [Option.toList, List.cons_append, List.nil_append, List.append_nil]
        refine wp_if_eq (pc' := 8) (pt := 21) rfl rfl rfl (fun q_169 => ?_) (fun q_169 => absurd (by decide) q_169)
        refine wp_iconst (a := -1) (pc' := 22) rfl rfl rfl ?_
        refine wp_ret rfl rfl rfl ?_
        first
        | (exfalso; omega)
        | exact ⟨rfl, rfl, hI⟩
  · skip
    rw [hv1, hw9]
    clear hv1 hw9 v1 w9
    dsimp only [Option.toList, List.cons_append, List.nil_append, List.append_nil]
    refine wp_if_eq (pc' := 11) (pt := 27) rfl rfl rfl (fun q_170 => ?_) (fun q_170 => absurd (by decide) q_170)
    refine wp_iconst (a := -1) (pc' := 28) rfl rfl rfl ?_
    refine wp_ret rfl rfl rfl ?_
    refine ⟨_, rfl, ?_, ?_⟩
    · rfl
    refine wp_aload_n (pc' := 1) rfl rfl rfl (by decide) ?_
    refine wp_iload_n (pc' := 2) rfl rfl rfl ?_
    refine wp_call (pc' := 5) rfl rfl rfl rfl rfl ⟨Nat.le_of_ble_eq_true rfl, Nat.le_of_ble_eq_true rfl, Nat.le_of_ble_eq_true rfl, Nat.le_of_ble_eq_true rfl, Nat.le_of_ble_eq_true rfl⟩ rfl (c_Mod_isCell (by omega)) ?_
    rintro v1 w9 ⟨hw9, ⟨hv1, hc1⟩ | ⟨hv1, hc1⟩⟩
    · skip
      rw [hv1, hw9]
      clear hv1 hw9 v1 w9
      dsimp only [Option.toList, List.cons_append, List.nil_append, List.append_nil]
      refine wp_if_eq (pc' := 8) (pt := 21) rfl rfl rfl (fun q_221 => absurd q_221 (by decide)) (fun q_221 => ?_)
      refine wp_aload_n (pc' := 9) rfl rfl rfl (by decide) ?_
      refine wp_iload_n (pc' := 10) rfl rfl rfl ?_
      refine wp_call (pc' := 13) rfl rfl rfl rfl rfl ⟨Nat.le_of_ble_eq_true rfl, Nat.le_of_ble_eq_true rfl, Nat.le_of_ble_eq_true rfl, Nat.le_of_ble_eq_true rfl, Nat.le_of_ble_eq_true rfl⟩ rfl (c_Mod_isCell (by omega)) ?_
      rintro v1 w9 ⟨hw9, ⟨hv1, hc2⟩ | ⟨hv1, hc2⟩⟩
      · skip
        rw [hv1, hw9]
        clear hv1 hw9 v1 w9
        dsimp only [Option.toList, List.cons_append, List.nil_append, List.append_nil]
        refine wp_if_eq (pc' := 16) (pt := 21) rfl rfl rfl (fun q_222 => absurd q_222 (by decide)) (fun q_222 => ?_)
        refine wp_iload_n (pc' := 17) rfl rfl rfl ?_
        refine wp_iload_n (pc' := 18) rfl rfl rfl ?_
        refine wp_icmp_ne (pc' := 21) (pt := 23) rfl rfl rfl (fun q_223 => ?_) (fun q_223 => ?_)
        · skip
          exfalso; omega
        · skip
          refine wp_iconst (a := -1) (pc' := 22) rfl rfl rfl ?_
          refine wp_ret rfl rfl rfl ?_
          first
          | (exfalso; omega)
          | exact ⟨rfl, rfl, hI⟩
      · skip
        rw [hv1, hw9]
        clear hv1 hw9 v1 w9
        dsimp only [Option.toList, List.cons_append, List.nil_append, List.append_nil]
        refine wp_if_eq (pc' := 16) (pt := 21) rfl rfl rfl (fun q_224 => ?_) (fun q_224 => absurd (by decide) q_224)
        refine wp_iconst (a := -1) (pc' := 22) rfl rfl rfl ?_
        refine wp_ret rfl rfl rfl ?_
        first
        | (exfalso; omega)
        | exact ⟨rfl, rfl, hI⟩
    · skip
      rw [hv1, hw9]
      clear hv1 hw9 v1 w9
      dsimp only [Option.toList, List.cons_append, List.nil_append, List.append_nil]
      refine wp_if_eq (pc' := 8) (pt := 21) rfl rfl rfl (fun q_225 => ?_) (fun q_225 => absurd (by decide) q_225)
      refine wp_iconst (a := -1) (pc' := 22) rfl rfl rfl ?_
      refine wp_ret rfl rfl rfl ?_
      first
      | (exfalso; omega)
      | exact ⟨rfl, rfl, hI⟩
