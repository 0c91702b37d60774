/-! lots -/
theorem wp_stc {sh : Shp} {d mi pc : Nat} {ls : PL} {st : List PV} {w : Hp} {Q : Option PV → Hp → Prop} (h : Stc w) (k : Stc w → WP sh d mi pc ls st w Q) : WP sh d mi pc ls st w Q := k h
def lotN (seed : Int) : Nat → Int
  | 0 => seed
  | m + 1 => 48271 * lotN seed m % 2147483647
theorem lotN_in {seed : Int} (h : 0 ≤ seed ∧ seed < 2147483647) : ∀ m : Nat, 0 ≤ lotN seed m ∧ lotN seed m < 2147483647 := by
  intro m
  cases m with
  | zero => exact h
  | succ m => unfold lotN; omega
def dS (c l n : Int) (K H G : Int → Int) (lot : Int) (s : Int × Int × Int) : Int × Int × Int :=
  if lot % 3 = 0 then (if sBeside c l s.1 (1 + lot / 8 % 4) = -1 then s.1 else sBeside c l s.1 (1 + lot / 8 % 4), 0, s.2.2)
  else (sBeside c l s.1 (sWay c l n K H G s.1 s.2.1), sAgainst (sWay c l n K H G s.1 s.2.1), s.2.2 + 1)
def dN (c l n : Int) (K H G : Int → Int) (seed : Int) (s : Int × Int × Int) : Nat → Int × Int × Int
  | 0 => s
  | m + 1 => dS c l n K H G (lotN seed (m + 1)) (dN c l n K H G seed s m)
theorem dN_ok {c l n seed : Int} {K H G : Int → Int} {s : Int × Int × Int} {y : Int} (hc : CL c l) (hx : Cel c l s.1) (hb : 0 ≤ s.2.1 ∧ s.2.1 ≤ 4) (hy : 0 ≤ s.2.2 ∧ s.2.2 ≤ y) (hg : ∀ j : Int, 0 ≤ j → j < n → 1 ≤ G j ∧ G j ≤ 9) : ∀ m : Nat, Cel c l (dN c l n K H G seed s m).1 ∧ (0 ≤ (dN c l n K H G seed s m).2.1 ∧ (dN c l n K H G seed s m).2.1 ≤ 4) ∧ (0 ≤ (dN c l n K H G seed s m).2.2 ∧ (dN c l n K H G seed s m).2.2 ≤ y + m) := by
  intro m
  induction m with
  | zero => exact ⟨hx, hb, by show 0 ≤ s.2.2 ∧ s.2.2 ≤ y + 0; omega⟩
  | succ m ih =>
    obtain ⟨i1, i2, i3⟩ := ih
    have h := @sWay_ok _ _ n _ (dN c l n K H G seed s m).2.1 K H G hc i1 hg
    unfold dN dS
    split
    · dsimp only
      refine ⟨?_, by omega, by omega⟩
      split
      · exact i1
      · rename_i q
        exact beside_cel hc i1 q
    · dsimp only
      exact ⟨beside_cel hc i1 h.2.2, against_in ⟨h.1, h.2.1⟩, by omega, by omega⟩
theorem dN_congr {c l n seed : Int} {K K' H H' G G' : Int → Int} {s : Int × Int × Int} (h : ∀ j : Int, 0 ≤ j → j < n → K j = K' j ∧ H j = H' j ∧ G j = G' j) : ∀ m : Nat, dN c l n K H G seed s m = dN c l n K' H' G' seed s m := by
  intro m
  induction m with
  | zero => rfl
  | succ m ih =>
    unfold dN dS
    rw [ih, sWay_congr h]
def LXL : List Int := [7, 8, 9, 10, 11, 24, 25]
def LXF : List (Int × Int) := [(3, 3), (3, 4), (3, 5), (3, 6)]
def LX (w w1 : Hp) (X : Nat → Int × Int × Int) (m : Nat) : Prop := SameF w w1 LXL LXF ∧ (∀ q : Int, 7 ≤ q → q ≤ 11 → ∀ e : Int, 0 ≤ e → e < w 3 6 → w1 q e = w q e) ∧ (∀ j : Nat, j < m → w1 7 (w 3 6 + j) = (X j).1 ∧ w1 8 (w 3 6 + j) = (X j).2.1 ∧ w1 9 (w 3 6 + j) = (X j).2.2 ∧ w1 10 (w 3 6 + j) = -1) ∧ w1 3 6 = w 3 6 + m ∧ w1 3 3 = (X m).1 ∧ w1 3 4 = (X m).2.1 ∧ w1 3 5 = (X m).2.2
theorem LX.zero {w : Hp} {X : Nat → Int × Int × Int} (h : X 0 = (w 3 3, w 3 4, w 3 5)) : LX w w X 0 := ⟨SameF.rf _ _ _, fun _ _ _ _ _ _ => rfl, fun j hj => absurd hj (by omega), by simp, by rw [h], by rw [h], by rw [h]⟩
theorem LX.step {w w1 w2 : Hp} {X : Nat → Int × Int × Int} {m : Nat} (h : LX w w1 X m) (hw : 0 ≤ w 3 6) (hS : SameF w1 w2 [24, 25] (DQ (w1 3 6))) (hx : DX w1 w2) (h3 : w2 3 3 = (X (m + 1)).1) (h4 : w2 3 4 = (X (m + 1)).2.1) (h5 : w2 3 5 = (X (m + 1)).2.2) : LX w w2 X (m + 1) := by
  obtain ⟨s1, s2, s3, s4, s5, s6, s7⟩ := h
  obtain ⟨x7, x8, x9, x10, x36⟩ := hx
  rw [s4] at hS x7 x8 x9 x10 x36
  refine ⟨s1.tr (hS.mono (fun r hr => by simp [LXL] at hr ⊢; omega) (fun q hq => by simp [DQ] at hq; rcases hq with rfl | rfl | rfl | rfl | rfl | rfl | rfl | rfl | rfl <;> simp [LXL, LXF])), fun q a b e e0 e1 => ?_, fun j hj => ?_, by rw [x36]; omega, h3, h4, h5⟩
  · rw [hS q e (by simp; omega) (by simp [DQ]; omega)]
    exact s2 q a b e e0 e1
  · by_cases hjm : j = m
    · subst hjm
      rw [x7, x8, x9, x10]
      exact ⟨s5, s6, s7, rfl⟩
    · rw [hS 7 _ (by simp) (by simp [DQ]; omega), hS 8 _ (by simp) (by simp [DQ]; omega), hS 9 _ (by simp) (by simp [DQ]; omega), hS 10 _ (by simp) (by simp [DQ]; omega)]
      exact s3 j (by omega)
def MXF : List (Int × Int) := [(100, 23), (109, 0), (109, 1), (109, 2)]
def MX (w w1 : Hp) (X : Nat → Int × Int × Int) (m : Nat) : Prop := SameF w w1 [113, 114] MXF ∧ (∀ j : Nat, j < m → w1 114 (9 * (w 100 23 + j)) = (X j).1 ∧ w1 114 (9 * (w 100 23 + j) + 1) = (X j).2.1 ∧ w1 114 (9 * (w 100 23 + j) + 2) = (X j).2.2 ∧ ∀ i : Int, 0 ≤ i → i < 6 → w1 114 (9 * (w 100 23 + j) + 3 + i) = w 109 (3 + i)) ∧ (∀ z : Int, z < 9 * w 100 23 → w1 114 z = w 114 z) ∧ w1 100 23 = w 100 23 + m ∧ w1 109 0 = (X m).1 ∧ w1 109 1 = (X m).2.1 ∧ w1 109 2 = (X m).2.2
theorem MX.zero {w : Hp} {X : Nat → Int × Int × Int} (h : X 0 = (w 109 0, w 109 1, w 109 2)) : MX w w X 0 := ⟨SameF.rf _ _ _, fun j hj => absurd hj (by omega), fun _ _ => rfl, by simp, by rw [h], by rw [h], by rw [h]⟩
theorem MX.step {w w1 w2 w3 : Hp} {X : Nat → Int × Int × Int} {m : Nat} (h : MX w w1 X m) (hS : SameF w1 w2 [114] [(100, 23)]) (hg : ∀ j : Int, 0 ≤ j → j < 9 → w2 114 (9 * w1 100 23 + j) = w1 109 j) (ho : ∀ z : Int, z < 9 * w1 100 23 → w2 114 z = w1 114 z) (h23 : w2 100 23 = w1 100 23 + 1) (hS3 : SameF w2 w3 [113] [(109, 0), (109, 1), (109, 2)]) (h0 : w3 109 0 = (X (m + 1)).1) (h1 : w3 109 1 = (X (m + 1)).2.1) (h2 : w3 109 2 = (X (m + 1)).2.2) : MX w w3 X (m + 1) := by
  obtain ⟨s1, s2, s3, s4, s5, s6, s7⟩ := h
  rw [s4] at hg ho h23
  have e14 : w3 114 = w2 114 := hS3.cell 114 (by decide) (by decide)
  refine ⟨(s1.tr (hS.mono (fun r hr => by simp at hr ⊢; omega) (fun q hq => Or.inl (by simp at hq; rw [hq]; simp [MXF])))).tr (hS3.mono (fun r hr => by simp at hr ⊢; omega) (fun q hq => Or.inl (by simp at hq; rcases hq with rfl | rfl | rfl <;> simp [MXF]))), fun j hj => ?_, fun z hz => ?_, by rw [hS3 100 23 (by decide) (by decide), h23]; omega, h0, h1, h2⟩
  · rw [e14]
    by_cases hjm : j = m
    · subst hjm
      have g0 := hg 0 (by decide) (by decide)
      rw [Int.add_zero] at g0
      refine ⟨by rw [g0]; exact s5, by rw [hg 1 (by decide) (by decide)]; exact s6, by rw [hg 2 (by decide) (by decide)]; exact s7, fun i i0 i1 => ?_⟩
      rw [show 9 * (w 100 23 + (j : Int)) + 3 + i = 9 * (w 100 23 + (j : Int)) + (3 + i) by omega, hg (3 + i) (by omega) (by omega)]
      exact s1 109 (3 + i) (by decide) (by simp [MXF]; omega)
    · obtain ⟨y1, y2, y3, y4⟩ := s2 j (by omega)
      refine ⟨by rw [ho _ (by omega)]; exact y1, by rw [ho _ (by omega)]; exact y2, by rw [ho _ (by omega)]; exact y3, fun i i0 i1 => ?_⟩
      rw [ho _ (by omega)]
      exact y4 i i0 i1
  · rw [e14, ho z (by omega)]
    exact s3 z hz
theorem lots_end {w w1 w2 : Hp} {X Y : Nat → Int × Int × Int} {n : Nat} (hI : Inv w) (hn : w 3 2 ≠ 0) (hm : w 3 6 + n ≤ 40) (h1 : LX w w1 X n) (h2 : MX w1 w2 Y n) (hXY : ∀ j, Y j = X j) (hX : ∀ j : Nat, j ≤ n → Cel (w 3 0) (w 3 1) (X j).1 ∧ (0 ≤ (X j).2.1 ∧ (X j).2.1 ≤ 4) ∧ (0 ≤ (X j).2.2 ∧ (X j).2.2 ≤ w 3 6 + j)) : w2 (-2) = w1 (-2) ∧ Inv w2 := by
  obtain ⟨hn25, b11, b12, b10, hn6, hem, m0, m1, m2, m23, hyr, hdd, hpre⟩ := hI.base
  obtain ⟨s1, s2, s3, s4, s5, s6, s7⟩ := h1
  obtain ⟨t1, t2, t3, t4, t5, t6, t7⟩ := h2
  obtain rfl : Y = X := funext hXY
  have er : ∀ q : Int, 100 ≤ q → w1 q = w q := fun q hq => s1.cell q (by simp [LXL]; omega) (by simp [LXF]; omega)
  have el : ∀ q : Int, q < 100 → w2 q = w1 q := fun q hq => t1.cell q (by simp; omega) (by simp [MXF]; omega)
  rw [er 100 (by decide), m23] at t2 t3 t4
  rw [er 109 (by decide)] at t2
  rw [er 114 (by decide)] at t3
  refine ⟨el (-2) (by decide), hI.deeds hn hm ?_ (fun q a b e e0 e1 => by rw [el q (by omega)]; exact s2 q a b e e0 e1) (fun j hj => by rw [el 7 (by decide), el 8 (by decide), el 9 (by decide), el 10 (by decide)]; exact s3 j hj) (by rw [el 3 (by decide)]; exact s4) (by rw [el 3 (by decide)]; exact ⟨s5, s6, s7⟩) t2 t3 t4 ⟨t5, t6, t7⟩ hX⟩
  exact (s1.mono (fun r hr => by simp [LXL] at hr ⊢; omega) (fun q hq => Or.inl (by simp [LXF] at hq; rcases hq with rfl | rfl | rfl | rfl <;> simp))).tr (t1.mono (fun r hr => by simp at hr ⊢; omega) (fun q hq => Or.inl (by simp [MXF] at hq; rcases hq with rfl | rfl | rfl | rfl <;> simp)))
set_option maxRecDepth 20000 in
set_option maxHeartbeats 4000000 in
theorem l_lots {w : Hp} {d : Nat} {n seed : Int} (hT0 : Stc w) (hr0 : ROw w) (hp : LnOK w) (hc0 : Cel (w 3 0) (w 3 1) (w 3 3)) (hb0 : 0 ≤ w 3 4 ∧ w 3 4 ≤ 4) (hy0 : 0 ≤ w 3 5 ∧ w 3 5 ≤ w 3 6) (hn : 1 ≤ n ∧ w 3 6 + n ≤ 40) (hsd : 0 ≤ seed ∧ seed < 2147483647) : ∀ (k m : Nat) (lot y : Int) (w1 : Hp), y = m → y + k = n → lot = lotN seed m → LX w w1 (dN (w 3 0) (w 3 1) (w 3 2) (w 4) (w 5) (w 6) seed (w 3 3, w 3 4, w 3 5)) m → WP SH (d + 6) 115 60 [some (vR 0), some (vI n), some (vI seed), some (vI lot), some (vI y)] [] w1 (fun v w' => v = some (vI ((dN (w 3 0) (w 3 1) (w 3 2) (w 4) (w 5) (w 6) seed (w 3 3, w 3 4, w 3 5)) n.toNat).1) ∧ LX w w' (dN (w 3 0) (w 3 1) (w 3 2) (w 4) (w 5) (w 6) seed (w 3 3, w 3 4, w 3 5)) n.toNat) := by
  intro k
  induction k with
  | zero =>
    intro m lot y w1 hy hyk hlot hL
    have hlb := lotN_in hsd m
    rw [← hlot] at hlb
    have hok := @dN_ok _ _ (w 3 2) seed (w 4) (w 5) (w 6) (w 3 3, w 3 4, w 3 5) (w 3 6) hp.1 hc0 hb0 hy0 (fun j a b => (hp.2.2 j a b).2.2) m
    have hLid := id hL
    obtain ⟨hS, hL2, hL3, hL36, hL33, hL34, hL35⟩ := hLid
    have hT := hT0.sameF hS (by decide)
    have hr1 : ROw w1 := by
      unfold ROw
      rw [hS.cell (-3) (by decide) (by decide), hS.cell (-4) (by decide) (by decide), hS.cell (-5) (by decide) (by decide)]
      exact hr0
    have e30 : w1 3 0 = w 3 0 := hS 3 0 (by decide) (by decide)
    have e31 : w1 3 1 = w 3 1 := hS 3 1 (by decide) (by decide)
    have e32 : w1 3 2 = w 3 2 := hS 3 2 (by decide) (by decide)
    have e4 : w1 4 = w 4 := hS.cell 4 (by decide) (by decide)
    have e5 : w1 5 = w 5 := hS.cell 5 (by decide) (by decide)
    have e6 : w1 6 = w 6 := hS.cell 6 (by decide) (by decide)
    have hp1 : LnOK w1 := by
      unfold LnOK
      rw [e30, e31, e32, e4, e5, e6]
      exact hp
    have hx1 : Cel (w1 3 0) (w1 3 1) (w1 3 3) := by rw [e30, e31, hL33]; exact hok.1
    refine wp_iload (pc' := 62) rfl rfl rfl ?_
    refine wp_iload_n (pc' := 63) rfl rfl rfl ?_
    refine wp_icmp_ge (pc' := 66) (pt := 113) rfl rfl rfl (fun q_1 => ?_) (fun q_1 => ?_)
    · skip
      refine wp_aload_n (pc' := 114) rfl rfl rfl (by decide) ?_
      refine wp_getR (r' := 3) (ci := 9) (k0 := 2) (pc' := 117) rfl rfl (by decide) (by first | assumption | rfl) (hT.get 2 rfl) ?_
      refine wp_getI (ci := 3) (k0 := 3) (pc' := 120) rfl rfl (by decide) (by first | assumption | rfl) ?_
      refine wp_ret rfl rfl rfl ?_
      obtain rfl : m = n.toNat := by omega
      exact ⟨by rw [hL33], hL⟩
    · skip
      exfalso; omega
  | succ k ih =>
    intro m lot y w1 hy hyk hlot hL
    have hlb := lotN_in hsd m
    rw [← hlot] at hlb
    have hok := @dN_ok _ _ (w 3 2) seed (w 4) (w 5) (w 6) (w 3 3, w 3 4, w 3 5) (w 3 6) hp.1 hc0 hb0 hy0 (fun j a b => (hp.2.2 j a b).2.2) m
    have hLid := id hL
    obtain ⟨hS, hL2, hL3, hL36, hL33, hL34, hL35⟩ := hLid
    have hT := hT0.sameF hS (by decide)
    have hr1 : ROw w1 := by
      unfold ROw
      rw [hS.cell (-3) (by decide) (by decide), hS.cell (-4) (by decide) (by decide), hS.cell (-5) (by decide) (by decide)]
      exact hr0
    have e30 : w1 3 0 = w 3 0 := hS 3 0 (by decide) (by decide)
    have e31 : w1 3 1 = w 3 1 := hS 3 1 (by decide) (by decide)
    have e32 : w1 3 2 = w 3 2 := hS 3 2 (by decide) (by decide)
    have e4 : w1 4 = w 4 := hS.cell 4 (by decide) (by decide)
    have e5 : w1 5 = w 5 := hS.cell 5 (by decide) (by decide)
    have e6 : w1 6 = w 6 := hS.cell 6 (by decide) (by decide)
    have hp1 : LnOK w1 := by
      unfold LnOK
      rw [e30, e31, e32, e4, e5, e6]
      exact hp
    have hx1 : Cel (w1 3 0) (w1 3 1) (w1 3 3) := by rw [e30, e31, hL33]; exact hok.1
    refine wp_iload (pc' := 62) rfl rfl rfl ?_
    refine wp_iload_n (pc' := 63) rfl rfl rfl ?_
    refine wp_icmp_ge (pc' := 66) (pt := 113) rfl rfl rfl (fun q_1 => ?_) (fun q_1 => ?_)
    · skip
      exfalso; omega
    · skip
      refine wp_ldc2_w (a := 48271) (pc' := 69) rfl rfl rfl ?_
      refine wp_iload_n (pc' := 70) rfl rfl rfl ?_
      refine wp_i2l (pc' := 71) rfl rfl ?_
      refine wp_lmul (pc' := 72) rfl rfl (by first | exact w64_id (by omega) (by omega) | rfl) ?_
      refine wp_ldc2_w (a := 2147483647) (pc' := 75) rfl rfl rfl ?_
      refine wp_lrem (pc' := 76) rfl rfl (by omega) (by first | exact lRem_pos (by omega) (by omega) (by omega) | rfl) ?_
      refine wp_l2i (pc' := 77) rfl rfl (by first | exact w32_id (by omega) (by omega) | rfl) ?_
      refine wp_istore_n (pc' := 78) rfl rfl (Nat.le_of_ble_eq_true rfl) rfl ?_
      dsimp only [lset, lset2, List.set, List.getElem?_cons_zero, List.getElem?_cons_succ]
      refine wp_iload_n (pc' := 79) rfl rfl rfl ?_
      refine wp_iconst (a := 3) (pc' := 80) rfl rfl rfl ?_
      refine wp_irem (pc' := 81) rfl rfl (by omega) (by first | exact iRem_pos (by omega) (by omega) (by omega) | rfl) ?_
      refine wp_if_ne (pc' := 84) (pt := 102) rfl rfl rfl (fun q_2 => ?_) (fun q_2 => ?_)
      · skip
        refine wp_aload_n (pc' := 103) rfl rfl rfl (by decide) ?_
        refine wp_call (pc' := 106) rfl rfl rfl rfl rfl ⟨Nat.le_of_ble_eq_true rfl, Nat.le_of_ble_eq_true rfl, Nat.le_of_ble_eq_true rfl, Nat.le_of_ble_eq_true rfl, Nat.le_of_ble_eq_true rfl⟩ rfl (c_VH_passYear hT hr1 hp1 hx1 (by omega) (by omega)) ?_
        rintro v1 w2 ⟨hv1, hS2, hX2, y3, y4, y5⟩
        rw [hv1]
        clear hv1 v1
        dsimp only [Option.toList, List.cons_append, List.nil_append, List.append_nil]
        refine wp_pop (pc' := 107) rfl rfl ?_
        refine wp_iinc (pc' := 110) rfl rfl rfl (inc_id (by omega) (by omega)) rfl ?_
        dsimp only [lset, lset2, List.set, List.getElem?_cons_zero, List.getElem?_cons_succ]
        refine wp_goto (pc' := 60) rfl rfl ?_
        have hl2 : 48271 * lot % 2147483647 = lotN seed (m + 1) := by rw [hlot]; rfl
        refine ih (m + 1) _ _ w2 (by omega) (by omega) hl2 (hL.step (by omega) hS2 hX2 ?_ ?_ ?_)
        · rw [y3, e30, e31, e32, e4, e5, e6, hL33, hL34]
          show _ = (dS _ _ _ _ _ _ (lotN seed (m + 1)) _).1
          rw [← hl2, dS, if_neg (show ¬ 48271 * lot % 2147483647 % 3 = 0 by omega)]
          skip
        · rw [y4, e30, e31, e32, e4, e5, e6, hL33, hL34]
          show _ = (dS _ _ _ _ _ _ (lotN seed (m + 1)) _).2.1
          rw [← hl2, dS, if_neg (show ¬ 48271 * lot % 2147483647 % 3 = 0 by omega)]
        · rw [y5, hL35]
          show _ = (dS _ _ _ _ _ _ (lotN seed (m + 1)) _).2.2
          rw [← hl2, dS, if_neg (show ¬ 48271 * lot % 2147483647 % 3 = 0 by omega)]
      · skip
        refine wp_aload_n (pc' := 85) rfl rfl rfl (by decide) ?_
        refine wp_getR (r' := 3) (ci := 9) (k0 := 2) (pc' := 88) rfl rfl (by decide) (by first | assumption | rfl) (hT.get 2 rfl) ?_
        refine wp_iconst (a := 1) (pc' := 89) rfl rfl rfl ?_
        refine wp_iload_n (pc' := 90) rfl rfl rfl ?_
        refine wp_bipush (a := 8) (pc' := 92) rfl rfl rfl ?_
        refine wp_idiv (pc' := 93) rfl rfl (by omega) (by first | exact iDiv_pos (by omega) (by omega) (by omega) | rfl) ?_
        refine wp_iconst (a := 4) (pc' := 94) rfl rfl rfl ?_
        refine wp_irem (pc' := 95) rfl rfl (by omega) (by first | exact iRem_pos (by omega) (by omega) (by omega) | rfl) ?_
        refine wp_iadd (pc' := 96) rfl rfl (by first | exact w32_id (by omega) (by omega) | rfl) ?_
        refine wp_call (pc' := 99) rfl rfl rfl rfl rfl ⟨Nat.le_of_ble_eq_true rfl, Nat.le_of_ble_eq_true rfl, Nat.le_of_ble_eq_true rfl, Nat.le_of_ble_eq_true rfl, Nat.le_of_ble_eq_true rfl⟩ rfl (c_Land_bePushed hT (by omega) hp1.1 hx1) ?_
        rintro v1 w2 ⟨hv1, hS0, hX2, y3, y4, y5⟩
        rw [hv1]
        clear hv1 v1
        have hS2 : SameF w1 w2 [24, 25] (DQ (w1 3 6)) := hS0.mono (fun r hr => absurd hr (by simp)) (fun q hq => Or.inl hq)
        dsimp only [Option.toList, List.cons_append, List.nil_append, List.append_nil]
        refine wp_goto (pc' := 107) rfl rfl ?_
        refine wp_iinc (pc' := 110) rfl rfl rfl (inc_id (by omega) (by omega)) rfl ?_
        dsimp only [lset, lset2, List.set, List.getElem?_cons_zero, List.getElem?_cons_succ]
        refine wp_goto (pc' := 60) rfl rfl ?_
        have hl2 : 48271 * lot % 2147483647 = lotN seed (m + 1) := by rw [hlot]; rfl
        refine ih (m + 1) _ _ w2 (by omega) (by omega) hl2 (hL.step (by omega) hS2 hX2 ?_ ?_ ?_)
        · rw [y3, hL33, e30, e31]
          show _ = (dS _ _ _ _ _ _ (lotN seed (m + 1)) _).1
          rw [← hl2, dS, if_pos (show 48271 * lot % 2147483647 % 3 = 0 by omega)]
          skip
        · rw [y4]
          show _ = (dS _ _ _ _ _ _ (lotN seed (m + 1)) _).2.1
          rw [← hl2, dS, if_pos (show 48271 * lot % 2147483647 % 3 = 0 by omega)]
        · rw [y5, hL35]
          show _ = (dS _ _ _ _ _ _ (lotN seed (m + 1)) _).2.2
          rw [← hl2, dS, if_pos (show 48271 * lot % 2147483647 % 3 = 0 by omega)]
set_option maxRecDepth 20000 in
set_option maxHeartbeats 4000000 in
theorem l_Mlots {w : Hp} {d : Nat} {n seed x3 : Int} (hT0 : Stc w) (hp : MdOK w) (hc0 : Cel (w 100 11) (w 100 12) (w 109 0)) (hb0 : 0 ≤ w 109 1 ∧ w 109 1 ≤ 4) (hy0 : 0 ≤ w 109 2 ∧ w 109 2 ≤ w 100 23) (hm0 : 0 ≤ w 100 23) (hn : 1 ≤ n ∧ w 100 23 + n ≤ 40) (hsd : 0 ≤ seed ∧ seed < 2147483647) : ∀ (k m : Nat) (lot y : Int) (w1 : Hp) (x7 : Option PV), y = m → y + k = n → lot = lotN seed m → MX w w1 (dN (w 100 11) (w 100 12) (w 100 10) (w 107) (fun i => w 109 (3 + i)) (w 108) seed (w 109 0, w 109 1, w 109 2)) m → WP SH (d + 8) 223 58 [some (vR 100), some (vI n), some (vI seed), some (vI x3), some (vL lot), none, some (vI y), x7] [] w1 (fun v w' => v = some (vI ((dN (w 100 11) (w 100 12) (w 100 10) (w 107) (fun i => w 109 (3 + i)) (w 108) seed (w 109 0, w 109 1, w 109 2)) n.toNat).1) ∧ MX w w' (dN (w 100 11) (w 100 12) (w 100 10) (w 107) (fun i => w 109 (3 + i)) (w 108) seed (w 109 0, w 109 1, w 109 2)) n.toNat) := by
  intro k
  induction k with
  | zero =>
    intro m lot y w1 x7 hy hyk hlot hL
    have hlb := lotN_in hsd m
    rw [← hlot] at hlb
    have hok := @dN_ok _ _ (w 100 10) seed (w 107) (fun i => w 109 (3 + i)) (w 108) (w 109 0, w 109 1, w 109 2) (w 100 23) hp.1 hc0 hb0 hy0 (fun j a b => (hp.2.2 j a b).2.2) m
    have hLid := id hL
    obtain ⟨hS, hL2, hL3, hL23, hL0, hL1, hLy⟩ := hLid
    have hT := hT0.sameF hS (by decide)
    have hp1 : MdOK w1 := hp.sameF hS (by decide) (by decide)
    have e10 : w1 100 10 = w 100 10 := hS 100 10 (by decide) (by decide)
    have e11 : w1 100 11 = w 100 11 := hS 100 11 (by decide) (by decide)
    have e12 : w1 100 12 = w 100 12 := hS 100 12 (by decide) (by decide)
    have e7 : w1 107 = w 107 := hS.cell 107 (by decide) (by decide)
    have e8 : w1 108 = w 108 := hS.cell 108 (by decide) (by decide)
    have e9 : ∀ i : Int, 3 ≤ i → w1 109 i = w 109 i := fun i hi => hS 109 i (by decide) (by simp [MXF]; omega)
    have hx1 : Cel (w1 100 11) (w1 100 12) (w1 109 0) := by rw [e11, e12, hL0]; exact hok.1
    refine wp_iload (pc' := 60) rfl rfl rfl ?_
    refine wp_iload_n (pc' := 61) rfl rfl rfl ?_
    refine wp_icmp_ge (pc' := 64) (pt := 162) rfl rfl rfl (fun q_1 => ?_) (fun q_1 => ?_)
    · skip
      refine wp_aload_n (pc' := 163) rfl rfl rfl (by decide) ?_
      refine wp_getR (r' := 109) (ci := 10) (k0 := 15) (pc' := 166) rfl rfl (by decide) (by first | assumption | rfl) (hT.get 107 rfl) ?_
      refine wp_iconst (a := 0) (pc' := 167) rfl rfl rfl ?_
      refine wp_iaload (pc' := 168) rfl rfl (by first | assumption | rfl) (by omega) ?_
      refine wp_ret rfl rfl rfl ?_
      obtain rfl : m = n.toNat := by omega
      exact ⟨by rw [hL0], hL⟩
    · skip
      exfalso; omega
  | succ k ih =>
    intro m lot y w1 x7 hy hyk hlot hL
    have hlb := lotN_in hsd m
    rw [← hlot] at hlb
    have hok := @dN_ok _ _ (w 100 10) seed (w 107) (fun i => w 109 (3 + i)) (w 108) (w 109 0, w 109 1, w 109 2) (w 100 23) hp.1 hc0 hb0 hy0 (fun j a b => (hp.2.2 j a b).2.2) m
    have hLid := id hL
    obtain ⟨hS, hL2, hL3, hL23, hL0, hL1, hLy⟩ := hLid
    have hT := hT0.sameF hS (by decide)
    have hp1 : MdOK w1 := hp.sameF hS (by decide) (by decide)
    have e10 : w1 100 10 = w 100 10 := hS 100 10 (by decide) (by decide)
    have e11 : w1 100 11 = w 100 11 := hS 100 11 (by decide) (by decide)
    have e12 : w1 100 12 = w 100 12 := hS 100 12 (by decide) (by decide)
    have e7 : w1 107 = w 107 := hS.cell 107 (by decide) (by decide)
    have e8 : w1 108 = w 108 := hS.cell 108 (by decide) (by decide)
    have e9 : ∀ i : Int, 3 ≤ i → w1 109 i = w 109 i := fun i hi => hS 109 i (by decide) (by simp [MXF]; omega)
    have hx1 : Cel (w1 100 11) (w1 100 12) (w1 109 0) := by rw [e11, e12, hL0]; exact hok.1
    refine wp_iload (pc' := 60) rfl rfl rfl ?_
    refine wp_iload_n (pc' := 61) rfl rfl rfl ?_
    refine wp_icmp_ge (pc' := 64) (pt := 162) rfl rfl rfl (fun q_1 => ?_) (fun q_1 => ?_)
    · skip
      exfalso; omega
    · skip
      refine wp_ldc2_w (a := 48271) (pc' := 67) rfl rfl rfl ?_
      refine wp_lload (pc' := 69) rfl rfl rfl ?_
      refine wp_lmul (pc' := 70) rfl rfl (by first | exact w64_id (by omega) (by omega) | rfl) ?_
      refine wp_ldc2_w (a := 2147483647) (pc' := 73) rfl rfl rfl ?_
      refine wp_lrem (pc' := 74) rfl rfl (by omega) (by first | exact lRem_pos (by omega) (by omega) (by omega) | rfl) ?_
      refine wp_lstore (pc' := 76) rfl rfl (Nat.le_of_ble_eq_true rfl) rfl ?_
      dsimp only [lset, lset2, List.set, List.getElem?_cons_zero, List.getElem?_cons_succ]
      refine wp_aload_n (pc' := 77) rfl rfl rfl (by decide) ?_
      refine wp_call (pc' := 80) rfl rfl rfl rfl rfl ⟨Nat.le_of_ble_eq_true rfl, Nat.le_of_ble_eq_true rfl, Nat.le_of_ble_eq_true rfl, Nat.le_of_ble_eq_true rfl, Nat.le_of_ble_eq_true rfl⟩ rfl (c_Mod_remember hT (by omega)) ?_
      rintro v1 w2 ⟨hv1, hS2, hg2, ho2, h23⟩
      rw [hv1]
      clear hv1 v1
      have hT : Stc w2 := hT.sameF hS2 (by decide)
      have hp2 : MdOK w2 := hp1.sameF hS2 (by decide) (by decide)
      have g109 : w2 109 = w1 109 := hS2.cell 109 (by decide) (by decide)
      have g11 : w2 100 11 = w 100 11 := (hS2 100 11 (by decide) (by decide)).trans e11
      have g12 : w2 100 12 = w 100 12 := (hS2 100 12 (by decide) (by decide)).trans e12
      have g10 : w2 100 10 = w 100 10 := (hS2 100 10 (by decide) (by decide)).trans e10
      have g7 : w2 107 = w 107 := (hS2.cell 107 (by decide) (by decide)).trans e7
      have g8 : w2 108 = w 108 := (hS2.cell 108 (by decide) (by decide)).trans e8
      have hx2 : Cel (w2 100 11) (w2 100 12) (w2 109 0) := by rw [g11, g12, g109, hL0]; exact hok.1
      dsimp only [Option.toList, List.cons_append, List.nil_append, List.append_nil]
      refine wp_lload (pc' := 82) rfl rfl rfl ?_
      refine wp_ldc2_w (a := 3) (pc' := 85) rfl rfl rfl ?_
      refine wp_lrem (pc' := 86) rfl rfl (by omega) (by first | exact lRem_pos (by omega) (by omega) (by omega) | rfl) ?_
      refine wp_lconst (a := 0) (pc' := 87) rfl rfl rfl ?_
      refine wp_lcmp (pc' := 88) rfl rfl rfl ?_
      have hlc : ∀ x : Int, lCmp x 0 = 0 ↔ x = 0 := fun x => by unfold lCmp; (repeat' split) <;> omega
      have hlc2 := hlc (48271 * lot % 2147483647 % 3)
      refine wp_if_ne (pc' := 91) (pt := 148) rfl rfl rfl (fun q_2 => ?_) (fun q_2 => ?_)
      · skip
        refine wp_aload_n (pc' := 149) rfl rfl rfl (by decide) ?_
        refine wp_aload_n (pc' := 150) rfl rfl rfl (by decide) ?_
        refine wp_getR (r' := 109) (ci := 10) (k0 := 15) (pc' := 153) rfl rfl (by decide) (by first | assumption | rfl) (hT.get 107 rfl) ?_
        refine wp_call (pc' := 156) rfl rfl rfl rfl rfl ⟨Nat.le_of_ble_eq_true rfl, Nat.le_of_ble_eq_true rfl, Nat.le_of_ble_eq_true rfl, Nat.le_of_ble_eq_true rfl, Nat.le_of_ble_eq_true rfl⟩ rfl (c_Mod_passes_now hT hp2 hx2 (by rw [g109, hLy]; omega)) ?_
        rintro v1 w3 ⟨hv1, hS3, z0, z1, z2⟩
        rw [hv1]
        clear hv1 v1
        have hfe : (fun i => w2 109 (3 + i)) = fun i => w1 109 (3 + i) := by rw [g109]
        have hwe : sWay (w2 100 11) (w2 100 12) (w2 100 10) (w2 107) (fun i => w2 109 (3 + i)) (w2 108) (w2 109 0) (w2 109 1) = sWay (w 100 11) (w 100 12) (w 100 10) (w 107) (fun i => w 109 (3 + i)) (w 108) ((dN (w 100 11) (w 100 12) (w 100 10) (w 107) (fun i => w 109 (3 + i)) (w 108) seed (w 109 0, w 109 1, w 109 2)) m).1 ((dN (w 100 11) (w 100 12) (w 100 10) (w 107) (fun i => w 109 (3 + i)) (w 108) seed (w 109 0, w 109 1, w 109 2)) m).2.1 := by
          rw [g11, g12, g10, g7, g8, g109, hL0, hL1]
          exact sWay_congr (fun j a b => ⟨rfl, e9 _ (by omega), rfl⟩)
        rw [hwe] at z0 z1
        rw [g11, g12, g109, hL0] at z0
        rw [g109, hLy] at z2
        dsimp only [Option.toList, List.cons_append, List.nil_append, List.append_nil]
        refine wp_iinc (pc' := 159) rfl rfl rfl (inc_id (by omega) (by omega)) rfl ?_
        dsimp only [lset, lset2, List.set, List.getElem?_cons_zero, List.getElem?_cons_succ]
        refine wp_goto (pc' := 58) rfl rfl ?_
        have hl2 : 48271 * lot % 2147483647 = lotN seed (m + 1) := by rw [hlot]; rfl
        refine ih (m + 1) _ _ w3 _ (by omega) (by omega) hl2 (hL.step hS2 hg2 ho2 h23 hS3 ?_ ?_ ?_)
        · rw [z0]
          show _ = (dS _ _ _ _ _ _ (lotN seed (m + 1)) _).1
          rw [← hl2, dS, if_neg (show ¬ 48271 * lot % 2147483647 % 3 = 0 by omega)]
        · rw [z1]
          show _ = (dS _ _ _ _ _ _ (lotN seed (m + 1)) _).2.1
          rw [← hl2, dS, if_neg (show ¬ 48271 * lot % 2147483647 % 3 = 0 by omega)]
        · rw [z2]
          show _ = (dS _ _ _ _ _ _ (lotN seed (m + 1)) _).2.2
          rw [← hl2, dS, if_neg (show ¬ 48271 * lot % 2147483647 % 3 = 0 by omega)]
      · skip
        refine wp_aload_n (pc' := 92) rfl rfl rfl (by decide) ?_
        refine wp_aload_n (pc' := 93) rfl rfl rfl (by decide) ?_
        refine wp_getR (r' := 109) (ci := 10) (k0 := 15) (pc' := 96) rfl rfl (by decide) (by first | assumption | rfl) (hT.get 107 rfl) ?_
        refine wp_iconst (a := 0) (pc' := 97) rfl rfl rfl ?_
        refine wp_iaload (pc' := 98) rfl rfl (by first | assumption | rfl) (by omega) ?_
        refine wp_iconst (a := 1) (pc' := 99) rfl rfl rfl ?_
        refine wp_lload (pc' := 101) rfl rfl rfl ?_
        refine wp_ldc2_w (a := 8) (pc' := 104) rfl rfl rfl ?_
        refine wp_ldiv (pc' := 105) rfl rfl (by omega) (by first | exact lDiv_pos (by omega) (by omega) (by omega) | rfl) ?_
        refine wp_ldc2_w (a := 4) (pc' := 108) rfl rfl rfl ?_
        refine wp_lrem (pc' := 109) rfl rfl (by omega) (by first | exact lRem_pos (by omega) (by omega) (by omega) | rfl) ?_
        refine wp_l2i (pc' := 110) rfl rfl (by first | exact w32_id (by omega) (by omega) | rfl) ?_
        refine wp_iadd (pc' := 111) rfl rfl (by first | exact w32_id (by omega) (by omega) | rfl) ?_
        refine wp_call (pc' := 114) rfl rfl rfl rfl rfl ⟨Nat.le_of_ble_eq_true rfl, Nat.le_of_ble_eq_true rfl, Nat.le_of_ble_eq_true rfl, Nat.le_of_ble_eq_true rfl, Nat.le_of_ble_eq_true rfl⟩ rfl (c_Mod_beside hp2.1 (by omega) hx2) ?_
        intro v1 w9 hq1
        rw [hq1.1, hq1.2]
        clear hq1 v1 w9
        have hbg := beside_ge (way := 1 + 48271 * lot % 2147483647 / 8 % 4) hp2.1 hx2
        rw [g11, g12, g109, hL0] at hbg ⊢
        dsimp only [Option.toList, List.cons_append, List.nil_append, List.append_nil]
        refine wp_istore (pc' := 116) rfl rfl (Nat.le_of_ble_eq_true rfl) rfl ?_
        dsimp only [lset, lset2, List.set, List.getElem?_cons_zero, List.getElem?_cons_succ]
        refine wp_aload_n (pc' := 117) rfl rfl rfl (by decide) ?_
        refine wp_getR (r' := 109) (ci := 10) (k0 := 15) (pc' := 120) rfl rfl (by decide) (by first | assumption | rfl) (hT.get 107 rfl) ?_
        refine wp_iconst (a := 0) (pc' := 121) rfl rfl rfl ?_
        refine wp_iload (pc' := 123) rfl rfl rfl ?_
        refine wp_if_ge (pc' := 126) (pt := 135) rfl rfl rfl (fun q_3 => ?_) (fun q_3 => ?_)
        · skip
          refine wp_iload (pc' := 137) rfl rfl rfl ?_
          refine wp_iastore (pc' := 138) rfl rfl (by first | assumption | rfl) (by omega) ?_
          refine wp_stc (hT.putA (by decide)) (fun hT => ?_)
          refine wp_aload_n (pc' := 139) rfl rfl rfl (by decide) ?_
          refine wp_getR (r' := 109) (ci := 10) (k0 := 15) (pc' := 142) rfl rfl (by decide) (by first | assumption | rfl) (hT.get 107 rfl) ?_
          refine wp_iconst (a := 1) (pc' := 143) rfl rfl rfl ?_
          refine wp_iconst (a := 0) (pc' := 144) rfl rfl rfl ?_
          refine wp_iastore (pc' := 145) rfl rfl (by first | assumption | rfl) (by omega) ?_
          refine wp_goto (pc' := 156) rfl rfl ?_
          refine wp_iinc (pc' := 159) rfl rfl rfl (inc_id (by omega) (by omega)) rfl ?_
          dsimp only [lset, lset2, List.set, List.getElem?_cons_zero, List.getElem?_cons_succ]
          refine wp_goto (pc' := 58) rfl rfl ?_
          have hl2 : 48271 * lot % 2147483647 = lotN seed (m + 1) := by rw [hlot]; rfl
          refine ih (m + 1) _ _ _ _ (by omega) (by omega) hl2 (hL.step hS2 hg2 ho2 h23 (((SameF.rf _ _ _).put (Or.inr (by decide))).put (Or.inr (by decide))) ?_ ?_ ?_)
          · rw [up_at (by decide), up_eq]
            show _ = (dS _ _ _ _ _ _ (lotN seed (m + 1)) _).1
            rw [← hl2, dS, if_pos (show 48271 * lot % 2147483647 % 3 = 0 by omega)]
            dsimp only
            first | (rw [if_pos (by omega), g109, hL0]) | (rw [if_neg (by omega)])
          · rw [up_eq]
            show _ = (dS _ _ _ _ _ _ (lotN seed (m + 1)) _).2.1
            rw [← hl2, dS, if_pos (show 48271 * lot % 2147483647 % 3 = 0 by omega)]
          · rw [up_at (by decide), up_at (by decide), g109, hLy]
            show _ = (dS _ _ _ _ _ _ (lotN seed (m + 1)) _).2.2
            rw [← hl2, dS, if_pos (show 48271 * lot % 2147483647 % 3 = 0 by omega)]
        · skip
          refine wp_aload_n (pc' := 127) rfl rfl rfl (by decide) ?_
          refine wp_getR (r' := 109) (ci := 10) (k0 := 15) (pc' := 130) rfl rfl (by decide) (by first | assumption | rfl) (hT.get 107 rfl) ?_
          refine wp_iconst (a := 0) (pc' := 131) rfl rfl rfl ?_
          refine wp_iaload (pc' := 132) rfl rfl (by first | assumption | rfl) (by omega) ?_
          refine wp_goto (pc' := 137) rfl rfl ?_
          refine wp_iastore (pc' := 138) rfl rfl (by first | assumption | rfl) (by omega) ?_
          refine wp_stc (hT.putA (by decide)) (fun hT => ?_)
          refine wp_aload_n (pc' := 139) rfl rfl rfl (by decide) ?_
          refine wp_getR (r' := 109) (ci := 10) (k0 := 15) (pc' := 142) rfl rfl (by decide) (by first | assumption | rfl) (hT.get 107 rfl) ?_
          refine wp_iconst (a := 1) (pc' := 143) rfl rfl rfl ?_
          refine wp_iconst (a := 0) (pc' := 144) rfl rfl rfl ?_
          refine wp_iastore (pc' := 145) rfl rfl (by first | assumption | rfl) (by omega) ?_
          refine wp_goto (pc' := 156) rfl rfl ?_
          refine wp_iinc (pc' := 159) rfl rfl rfl (inc_id (by omega) (by omega)) rfl ?_
          dsimp only [lset, lset2, List.set, List.getElem?_cons_zero, List.getElem?_cons_succ]
          refine wp_goto (pc' := 58) rfl rfl ?_
          have hl2 : 48271 * lot % 2147483647 = lotN seed (m + 1) := by rw [hlot]; rfl
          refine ih (m + 1) _ _ _ _ (by omega) (by omega) hl2 (hL.step hS2 hg2 ho2 h23 (((SameF.rf _ _ _).put (Or.inr (by decide))).put (Or.inr (by decide))) ?_ ?_ ?_)
          · rw [up_at (by decide), up_eq]
            show _ = (dS _ _ _ _ _ _ (lotN seed (m + 1)) _).1
            rw [← hl2, dS, if_pos (show 48271 * lot % 2147483647 % 3 = 0 by omega)]
            dsimp only
            first | (rw [if_pos (by omega), g109, hL0]) | (rw [if_neg (by omega)])
          · rw [up_eq]
            show _ = (dS _ _ _ _ _ _ (lotN seed (m + 1)) _).2.1
            rw [← hl2, dS, if_pos (show 48271 * lot % 2147483647 % 3 = 0 by omega)]
          · rw [up_at (by decide), up_at (by decide), g109, hLy]
            show _ = (dS _ _ _ _ _ _ (lotN seed (m + 1)) _).2.2
            rw [← hl2, dS, if_pos (show 48271 * lot % 2147483647 % 3 = 0 by omega)]
