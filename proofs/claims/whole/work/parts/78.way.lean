/-! way, parts -/
def NoW (c l mt cl to fr : Int) : Prop := fr = mt ∨ to = mt ∨ ∃ A : Int → Int, SP c l mt cl to A ∧ A fr = -1
theorem nw_cls {c l mt cl to fr : Int} {A : Int → Int} (hc : CL c l) (hf : Cel c l fr) (h1 : fr ≠ mt) (h2 : to ≠ mt) (hS : SP c l mt cl to A) : A fr = -1 ↔ NoW c l mt cl to fr := by
  refine ⟨fun h => Or.inr (Or.inr ⟨A, hS, h⟩), fun h => ?_⟩
  rcases h with h | h | ⟨B, hB, hb⟩
  · exact absurd h h1
  · exact absurd h h2
  · rw [sp_eq hc hS hB hf]
    exact hb
theorem nw_ref {c l mt cl to fr : Int} {A : Int → Int} (hc : CL c l) (hf : Cel c l fr) (hK : KI c l mt cl to A) (hS : to ≠ mt → SP c l mt cl to A) : A fr = -1 ↔ NoW c l mt cl to fr := by
  by_cases ht : to = mt
  · exact ⟨fun _ => Or.inr (Or.inl ht), fun _ => hK.2.2.2.2 ht fr hf⟩
  · by_cases hm : fr = mt
    · refine ⟨fun _ => Or.inl hm, fun _ => ?_⟩
      have h1 := (hK.1 fr hf).1
      by_cases h0 : A fr = 0
      · exact absurd ((hK.2.2.1 fr hf h0).symm.trans hm) ht
      · by_cases hp : 0 < A fr
        · exact absurd hm (hK.2.2.2.1 fr hf hp).1.1
        · omega
    · exact nw_cls hc hf hm ht (hS ht)
abbrev Pw (c l : Int) (A : Int → Int) (fr q : Int) : Prop := sBeside c l fr q ≠ -1 ∧ A (sBeside c l fr q) ≠ -1 ∧ A (sBeside c l fr q) = A fr - 1
def fwR (c l : Int) (A : Int → Int) (fr : Int) : Nat → Int
  | 0 => 0
  | k + 1 => if Pw c l A fr (4 - (k : Int)) then 4 - (k : Int) else fwR c l A fr k
theorem fwR_congr {c l fr : Int} {A B : Int → Int} (hc : CL c l) (hf : Cel c l fr) (h : ∀ x : Int, Cel c l x → A x = B x) : ∀ k : Nat, fwR c l A fr k = fwR c l B fr k := by
  intro k
  induction k with
  | zero => rfl
  | succ k ih =>
    have hp : Pw c l A fr (4 - (k : Int)) ↔ Pw c l B fr (4 - (k : Int)) := by
      unfold Pw
      by_cases hb : sBeside c l fr (4 - (k : Int)) = -1
      · exact ⟨fun z => absurd hb z.1, fun z => absurd hb z.1⟩
      · rw [h _ (beside_cel hc hf hb), h fr hf]
    unfold fwR
    rw [ih]
    by_cases hz : Pw c l A fr (4 - (k : Int))
    · rw [if_pos hz, if_pos (hp.1 hz)]
    · rw [if_neg hz, if_neg (fun z => hz (hp.2 z))]
set_option maxRecDepth 20000 in
set_option maxHeartbeats 4000000 in
theorem l_firstWay {w : Hp} {d : Nat} {fr : Int} (hT : Stc w) (hc : CL (w 3 0) (w 3 1)) (hf : Cel (w 3 0) (w 3 1) fr) (hb : -1 ≤ w 48 fr ∧ w 48 fr ≤ 25) : ∀ (k : Nat) (y : Int) (x4 : Option PV), 1 ≤ y → y + k = 5 → WP SH (d + 1) 52 2 [some (vR 47), some (vR 3), some (vI fr), some (vI y), x4] [] w (fun v w' => v = some (vI (fwR (w 3 0) (w 3 1) (w 48) fr k)) ∧ w' = w) := by
  intro k
  induction k with
  | zero =>
    intro y x4 hy hyk
    have hfd := hf.dm hc
    refine wp_iload_n (pc' := 3) rfl rfl rfl ?_
    refine wp_iconst (a := 4) (pc' := 4) rfl rfl rfl ?_
    refine wp_icmp_gt (pc' := 7) (pt := 58) rfl rfl rfl (fun q_1 => ?_) (fun q_1 => ?_)
    · skip
      refine wp_iconst (a := 0) (pc' := 59) rfl rfl rfl ?_
      refine wp_ret rfl rfl rfl ?_
      exact ⟨rfl, rfl⟩
    · skip
      exfalso; omega
  | succ k ih =>
    intro y x4 hy hyk
    have hfd := hf.dm hc
    refine wp_iload_n (pc' := 3) rfl rfl rfl ?_
    refine wp_iconst (a := 4) (pc' := 4) rfl rfl rfl ?_
    refine wp_icmp_gt (pc' := 7) (pt := 58) rfl rfl rfl (fun q_1 => ?_) (fun q_1 => ?_)
    · skip
      exfalso; omega
    · skip
      refine wp_aload_n (pc' := 8) rfl rfl rfl (by decide) ?_
      refine wp_iload_n (pc' := 9) rfl rfl rfl ?_
      refine wp_iload_n (pc' := 10) rfl rfl rfl ?_
      refine wp_call (pc' := 13) rfl rfl rfl rfl rfl ⟨Nat.le_of_ble_eq_true rfl, Nat.le_of_ble_eq_true rfl, Nat.le_of_ble_eq_true rfl, Nat.le_of_ble_eq_true rfl, Nat.le_of_ble_eq_true rfl⟩ rfl (c_Land_beside hc hf) ?_
      intro v1 w9 hq1
      rw [hq1.1, hq1.2]
      clear hq1 v1 w9
      have hbg := beside_ge (way := y) hc hf
      dsimp only [Option.toList, List.cons_append, List.nil_append, List.append_nil]
      refine wp_istore (pc' := 15) rfl rfl (Nat.le_of_ble_eq_true rfl) rfl ?_
      dsimp only [lset, lset2, List.set, List.getElem?_cons_zero, List.getElem?_cons_succ]
      refine wp_iload (pc' := 17) rfl rfl rfl ?_
      refine wp_iconst (a := -1) (pc' := 18) rfl rfl rfl ?_
      refine wp_icmp_eq (pc' := 21) (pt := 52) rfl rfl rfl (fun q_2 => ?_) (fun q_2 => ?_)
      · skip
        refine wp_iinc (pc' := 55) rfl rfl rfl (inc_id (by omega) (by omega)) rfl ?_
        dsimp only [lset, lset2, List.set, List.getElem?_cons_zero, List.getElem?_cons_succ]
        refine wp_goto (pc' := 2) rfl rfl ?_
        refine (ih (y + 1) _ (by omega) (by omega)).mono (fun v w' hq => ⟨?_, hq.2⟩)
        rw [hq.1, fwR, if_neg (fun z => by
          unfold Pw at z
          rw [show 4 - (k : Int) = y by omega] at z
          have z1 := z.1
          have z2 := z.2.1
          have z3 := z.2.2
          omega)]
      · skip
        refine wp_aload_n (pc' := 22) rfl rfl rfl (by decide) ?_
        refine wp_getR (r' := 48) (ci := 4) (k0 := 0) (pc' := 25) rfl rfl (by decide) (by first | assumption | rfl) (hT.get 62 rfl) ?_
        refine wp_iload (pc' := 27) rfl rfl rfl ?_
        refine wp_iaload (pc' := 28) rfl rfl (by first | assumption | rfl) (by omega) ?_
        refine wp_iconst (a := -1) (pc' := 29) rfl rfl rfl ?_
        refine wp_icmp_eq (pc' := 32) (pt := 52) rfl rfl rfl (fun q_3 => ?_) (fun q_3 => ?_)
        · skip
          refine wp_iinc (pc' := 55) rfl rfl rfl (inc_id (by omega) (by omega)) rfl ?_
          dsimp only [lset, lset2, List.set, List.getElem?_cons_zero, List.getElem?_cons_succ]
          refine wp_goto (pc' := 2) rfl rfl ?_
          refine (ih (y + 1) _ (by omega) (by omega)).mono (fun v w' hq => ⟨?_, hq.2⟩)
          rw [hq.1, fwR, if_neg (fun z => by
            unfold Pw at z
            rw [show 4 - (k : Int) = y by omega] at z
            have z1 := z.1
            have z2 := z.2.1
            have z3 := z.2.2
            omega)]
        · skip
          refine wp_aload_n (pc' := 33) rfl rfl rfl (by decide) ?_
          refine wp_getR (r' := 48) (ci := 4) (k0 := 0) (pc' := 36) rfl rfl (by decide) (by first | assumption | rfl) (hT.get 62 rfl) ?_
          refine wp_iload (pc' := 38) rfl rfl rfl ?_
          refine wp_iaload (pc' := 39) rfl rfl (by first | assumption | rfl) (by omega) ?_
          refine wp_aload_n (pc' := 40) rfl rfl rfl (by decide) ?_
          refine wp_getR (r' := 48) (ci := 4) (k0 := 0) (pc' := 43) rfl rfl (by decide) (by first | assumption | rfl) (hT.get 62 rfl) ?_
          refine wp_iload_n (pc' := 44) rfl rfl rfl ?_
          refine wp_iaload (pc' := 45) rfl rfl (by first | assumption | rfl) (by omega) ?_
          refine wp_iconst (a := 1) (pc' := 46) rfl rfl rfl ?_
          refine wp_isub (pc' := 47) rfl rfl (by first | exact w32_id (by omega) (by omega) | rfl) ?_
          refine wp_icmp_ne (pc' := 50) (pt := 52) rfl rfl rfl (fun q_4 => ?_) (fun q_4 => ?_)
          · skip
            refine wp_iinc (pc' := 55) rfl rfl rfl (inc_id (by omega) (by omega)) rfl ?_
            dsimp only [lset, lset2, List.set, List.getElem?_cons_zero, List.getElem?_cons_succ]
            refine wp_goto (pc' := 2) rfl rfl ?_
            refine (ih (y + 1) _ (by omega) (by omega)).mono (fun v w' hq => ⟨?_, hq.2⟩)
            rw [hq.1, fwR, if_neg (fun z => by
              unfold Pw at z
              rw [show 4 - (k : Int) = y by omega] at z
              have z1 := z.1
              have z2 := z.2.1
              have z3 := z.2.2
              omega)]
          · skip
            refine wp_iload_n (pc' := 51) rfl rfl rfl ?_
            refine wp_ret rfl rfl rfl ?_
            rw [fwR, if_pos (show Pw (w 3 0) (w 3 1) (w 48) fr (4 - (k : Int)) from by
              unfold Pw
              rw [show 4 - (k : Int) = y by omega]
              exact ⟨by omega, by omega, by omega⟩)]
            exact ⟨by rw [show 4 - (k : Int) = y by omega], rfl⟩
set_option maxRecDepth 20000 in
set_option maxHeartbeats 4000000 in
theorem c_Paths_firstWay {w : Hp} {d : Nat} {fr : Int} (hT : Stc w) (hc : CL (w 3 0) (w 3 1)) (hf : Cel (w 3 0) (w 3 1) fr) (hb : -1 ≤ w 48 fr ∧ w 48 fr ≤ 25) : WP SH (d + 1) 52 0 [some (vR 47), some (vR 3), some (vI fr), none, none] [] w (fun v w' => v = some (vI (fwR (w 3 0) (w 3 1) (w 48) fr 4)) ∧ w' = w) := by
  refine wp_iconst (a := 1) (pc' := 1) rfl rfl rfl ?_
  refine wp_istore_n (pc' := 2) rfl rfl (Nat.le_of_ble_eq_true rfl) rfl ?_
  dsimp only [lset, lset2, List.set, List.getElem?_cons_zero, List.getElem?_cons_succ]
  exact l_firstWay hT hc hf hb 4 1 _ (by decide) (by decide)
set_option maxRecDepth 20000 in
set_option maxHeartbeats 4000000 in
theorem l_Mway {w : Hp} {d : Nat} {fr to : Int} {A : Int → Int} {Q : Option PV → Hp → Prop} (hT : Stc w) (hc : CL (w 100 11) (w 100 12)) (hf : Cel (w 100 11) (w 100 12) fr) (hR : Rel (w 100 11) (w 100 12) (w 121) A) (hA : ∀ x : Int, Cel (w 100 11) (w 100 12) x → -1 ≤ A x ∧ A x ≤ 25) (h0 : 0 ≤ A fr) (K : ∀ x5 : Option PV, WP SH (d + 1) 217 93 [some (vR 100), some (vI fr), some (vI to), some (vI (fwR (w 100 11) (w 100 12) A fr 4)), some (vI 0), x5] [] w Q) : ∀ (k m : Nat) (y s : Int) (x5 : Option PV), y = k → m + k = 4 → s = fwR (w 100 11) (w 100 12) A fr m → WP SH (d + 1) 217 43 [some (vR 100), some (vI fr), some (vI to), some (vI s), some (vI y), x5] [] w Q := by
  intro k
  induction k with
  | zero =>
    intro m y s x5 hy hmk hs
    have hfd := hf.dm hc
    have hrf := hR fr hf
    rw [if_neg (show ¬ A fr = -1 by omega)] at hrf
    have haf := hA fr hf
    refine wp_iload (pc' := 45) rfl rfl rfl ?_
    refine wp_if_le (pc' := 48) (pt := 93) rfl rfl rfl (fun q_1 => ?_) (fun q_1 => ?_)
    · skip
      obtain rfl : m = 4 := by omega
      obtain rfl : y = 0 := by omega
      rw [hs]
      exact K x5
    · skip
      exfalso; omega
  | succ k ih =>
    intro m y s x5 hy hmk hs
    have hfd := hf.dm hc
    have hrf := hR fr hf
    rw [if_neg (show ¬ A fr = -1 by omega)] at hrf
    have haf := hA fr hf
    refine wp_iload (pc' := 45) rfl rfl rfl ?_
    refine wp_if_le (pc' := 48) (pt := 93) rfl rfl rfl (fun q_1 => ?_) (fun q_1 => ?_)
    · skip
      exfalso; omega
    · skip
      refine wp_aload_n (pc' := 49) rfl rfl rfl (by decide) ?_
      refine wp_iload_n (pc' := 50) rfl rfl rfl ?_
      refine wp_iload (pc' := 52) rfl rfl rfl ?_
      refine wp_call (pc' := 55) rfl rfl rfl rfl rfl ⟨Nat.le_of_ble_eq_true rfl, Nat.le_of_ble_eq_true rfl, Nat.le_of_ble_eq_true rfl, Nat.le_of_ble_eq_true rfl, Nat.le_of_ble_eq_true rfl⟩ rfl (c_Mod_beside hc (by omega) hf) ?_
      intro v1 w9 hq1
      rw [hq1.1, hq1.2]
      clear hq1 v1 w9
      have hbg := beside_ge (way := y) hc hf
      have hry : sBeside (w 100 11) (w 100 12) fr y ≠ -1 → w 121 (sBeside (w 100 11) (w 100 12) fr y) = (if A (sBeside (w 100 11) (w 100 12) fr y) = -1 then 1000000 else A (sBeside (w 100 11) (w 100 12) fr y)) ∧ -1 ≤ A (sBeside (w 100 11) (w 100 12) fr y) ∧ A (sBeside (w 100 11) (w 100 12) fr y) ≤ 25 := fun hne => by
        have hcy := beside_cel hc hf hne
        exact ⟨hR _ hcy, hA _ hcy⟩
      dsimp only [Option.toList, List.cons_append, List.nil_append, List.append_nil]
      refine wp_istore (pc' := 57) rfl rfl (Nat.le_of_ble_eq_true rfl) rfl ?_
      dsimp only [lset, lset2, List.set, List.getElem?_cons_zero, List.getElem?_cons_succ]
      refine wp_iload (pc' := 59) rfl rfl rfl ?_
      refine wp_if_lt (pc' := 62) (pt := 85) rfl rfl rfl (fun q_2 => ?_) (fun q_2 => ?_)
      · skip
        refine wp_iload_n (pc' := 86) rfl rfl rfl ?_
        refine wp_istore_n (pc' := 87) rfl rfl (Nat.le_of_ble_eq_true rfl) rfl ?_
        dsimp only [lset, lset2, List.set, List.getElem?_cons_zero, List.getElem?_cons_succ]
        refine wp_iinc (pc' := 90) rfl rfl rfl (inc_id (by omega) (by omega)) rfl ?_
        dsimp only [lset, lset2, List.set, List.getElem?_cons_zero, List.getElem?_cons_succ]
        refine wp_goto (pc' := 43) rfl rfl ?_
        refine ih (m + 1) _ _ _ (by omega) (by omega) ?_
        rw [fwR, ← hs]
        have hy4 : 4 - (m : Int) = y := by omega
        by_cases hP : Pw (w 100 11) (w 100 12) A fr (4 - (m : Int))
        · rw [if_pos hP]
          rw [hy4] at hP
          obtain ⟨p1, p2, p3⟩ := hP
          have hr2 := hry p1
          rw [if_neg p2] at hr2
          first
          | exact hy4.symm
          | (exfalso; omega)
        · first
          | (rw [if_neg hP]; done)
          | (exfalso
             rw [hy4] at hP
             have hne : sBeside (w 100 11) (w 100 12) fr y ≠ -1 := by omega
             have hr2 := hry hne
             refine hP ⟨hne, ?_, ?_⟩
             · intro hz
               rw [if_pos hz] at hr2
               omega
             · split at hr2 <;> omega)
      · skip
        refine wp_aload_n (pc' := 63) rfl rfl rfl (by decide) ?_
        refine wp_getR (r' := 121) (ci := 10) (k0 := 31) (pc' := 66) rfl rfl (by decide) (by first | assumption | rfl) (hT.get 119 rfl) ?_
        refine wp_iload (pc' := 68) rfl rfl rfl ?_
        refine wp_iaload (pc' := 69) rfl rfl (by first | assumption | rfl) (by omega) ?_
        refine wp_aload_n (pc' := 70) rfl rfl rfl (by decide) ?_
        refine wp_getR (r' := 121) (ci := 10) (k0 := 31) (pc' := 73) rfl rfl (by decide) (by first | assumption | rfl) (hT.get 119 rfl) ?_
        refine wp_iload_n (pc' := 74) rfl rfl rfl ?_
        refine wp_iaload (pc' := 75) rfl rfl (by first | assumption | rfl) (by omega) ?_
        refine wp_iconst (a := 1) (pc' := 76) rfl rfl rfl ?_
        refine wp_isub (pc' := 77) rfl rfl (by first | exact w32_id (by omega) (by omega) | rfl) ?_
        refine wp_icmp_ne (pc' := 80) (pt := 85) rfl rfl rfl (fun q_3 => ?_) (fun q_3 => ?_)
        · skip
          refine wp_iload_n (pc' := 86) rfl rfl rfl ?_
          refine wp_istore_n (pc' := 87) rfl rfl (Nat.le_of_ble_eq_true rfl) rfl ?_
          dsimp only [lset, lset2, List.set, List.getElem?_cons_zero, List.getElem?_cons_succ]
          refine wp_iinc (pc' := 90) rfl rfl rfl (inc_id (by omega) (by omega)) rfl ?_
          dsimp only [lset, lset2, List.set, List.getElem?_cons_zero, List.getElem?_cons_succ]
          refine wp_goto (pc' := 43) rfl rfl ?_
          refine ih (m + 1) _ _ _ (by omega) (by omega) ?_
          rw [fwR, ← hs]
          have hy4 : 4 - (m : Int) = y := by omega
          by_cases hP : Pw (w 100 11) (w 100 12) A fr (4 - (m : Int))
          · rw [if_pos hP]
            rw [hy4] at hP
            obtain ⟨p1, p2, p3⟩ := hP
            have hr2 := hry p1
            rw [if_neg p2] at hr2
            first
            | exact hy4.symm
            | (exfalso; omega)
          · first
            | (rw [if_neg hP]; done)
            | (exfalso
               rw [hy4] at hP
               have hne : sBeside (w 100 11) (w 100 12) fr y ≠ -1 := by omega
               have hr2 := hry hne
               refine hP ⟨hne, ?_, ?_⟩
               · intro hz
                 rw [if_pos hz] at hr2
                 omega
               · split at hr2 <;> omega)
        · skip
          refine wp_iload (pc' := 82) rfl rfl rfl ?_
          refine wp_goto (pc' := 86) rfl rfl ?_
          refine wp_istore_n (pc' := 87) rfl rfl (Nat.le_of_ble_eq_true rfl) rfl ?_
          dsimp only [lset, lset2, List.set, List.getElem?_cons_zero, List.getElem?_cons_succ]
          refine wp_iinc (pc' := 90) rfl rfl rfl (inc_id (by omega) (by omega)) rfl ?_
          dsimp only [lset, lset2, List.set, List.getElem?_cons_zero, List.getElem?_cons_succ]
          refine wp_goto (pc' := 43) rfl rfl ?_
          refine ih (m + 1) _ _ _ (by omega) (by omega) ?_
          rw [fwR, ← hs]
          have hy4 : 4 - (m : Int) = y := by omega
          by_cases hP : Pw (w 100 11) (w 100 12) A fr (4 - (m : Int))
          · rw [if_pos hP]
            rw [hy4] at hP
            obtain ⟨p1, p2, p3⟩ := hP
            have hr2 := hry p1
            rw [if_neg p2] at hr2
            first
            | exact hy4.symm
            | (exfalso; omega)
          · first
            | (rw [if_neg hP]; done)
            | (exfalso
               rw [hy4] at hP
               have hne : sBeside (w 100 11) (w 100 12) fr y ≠ -1 := by omega
               have hr2 := hry hne
               refine hP ⟨hne, ?_, ?_⟩
               · intro hz
                 rw [if_pos hz] at hr2
                 omega
               · split at hr2 <;> omega)
set_option maxRecDepth 20000 in
set_option maxHeartbeats 4000000 in
theorem p_way {w : Hp} {d : Nat} {fr : Int} {to : Int} (hI : Inv w) : WP SH (d + 9) 110 0 [some (vR 0), some (vI fr), some (vI to), none] [] w (fun v0 w1 => ∃ a, v0 = some (vI a) ∧ w1 (-2) = w (-2) ∧ WP SH (d + 9) 217 0 [some (vR 100), some (vI fr), some (vI to), none, none, none] [] w1 (fun v2 w2 => v2 = some (vI a) ∧ w2 (-2) = w1 (-2) ∧ Inv w2)) := by
  obtain ⟨hT, hRO, hIF, hITo, hIR, hIT, hIL, hIK⟩ := id hI
  obtain ⟨hn25, b11, b12, b10, hn6, hem, m0, m1, m2, m23, hyr, hdd, hpre⟩ := hI.base
  have hmm : w 100 11 * w 100 12 = w 3 0 * w 3 1 := by rw [b11, b12]
  refine wp_aload_n (pc' := 1) rfl rfl rfl (by decide) ?_
  refine wp_getR (r' := 3) (ci := 9) (k0 := 2) (pc' := 4) rfl rfl (by decide) (by first | assumption | rfl) (hT.get 2 rfl) ?_
  refine wp_iload_n (pc' := 5) rfl rfl rfl ?_
  refine wp_call (pc' := 8) rfl rfl rfl rfl rfl ⟨Nat.le_of_ble_eq_true rfl, Nat.le_of_ble_eq_true rfl, Nat.le_of_ble_eq_true rfl, Nat.le_of_ble_eq_true rfl, Nat.le_of_ble_eq_true rfl⟩ rfl (c_Land_hasCell hn25) ?_
  rintro v1 w9 ⟨hw9, ⟨hv1, hxf⟩ | ⟨hv1, hxf⟩⟩
  · skip
    rw [hv1, hw9]
    clear hv1 hw9 v1 w9
    dsimp only [Option.toList, List.cons_append, List.nil_append, List.append_nil]
    refine wp_if_eq (pc' := 11) (pt := 22) rfl rfl rfl (fun q_1 => absurd q_1 (by decide)) (fun q_1 => ?_)
    refine wp_aload_n (pc' := 12) rfl rfl rfl (by decide) ?_
    refine wp_getR (r' := 3) (ci := 9) (k0 := 2) (pc' := 15) rfl rfl (by decide) (by first | assumption | rfl) (hT.get 2 rfl) ?_
    refine wp_iload_n (pc' := 16) rfl rfl rfl ?_
    refine wp_call (pc' := 19) rfl rfl rfl rfl rfl ⟨Nat.le_of_ble_eq_true rfl, Nat.le_of_ble_eq_true rfl, Nat.le_of_ble_eq_true rfl, Nat.le_of_ble_eq_true rfl, Nat.le_of_ble_eq_true rfl⟩ rfl (c_Land_hasCell hn25) ?_
    rintro v1 w9 ⟨hw9, ⟨hv1, hxt⟩ | ⟨hv1, hxt⟩⟩
    · skip
      rw [hv1, hw9]
      clear hv1 hw9 v1 w9
      have hn0 : w 3 2 ≠ 0 := fun hz0 => by
        have hzz : w 3 0 * w 3 1 = 0 := by rw [hem.2 hz0, Int.zero_mul]
        omega
      have hpr := hpre hn0
      dsimp only [Option.toList, List.cons_append, List.nil_append, List.append_nil]
      refine wp_if_ne (pc' := 22) (pt := 24) rfl rfl rfl (fun q_2 => ?_) (fun q_2 => absurd (by decide) q_2)
      refine wp_aload_n (pc' := 25) rfl rfl rfl (by decide) ?_
      refine wp_getR (r' := 47) (ci := 9) (k0 := 10) (pc' := 28) rfl rfl (by decide) (by first | assumption | rfl) (hT.get 10 rfl) ?_
      refine wp_aload_n (pc' := 29) rfl rfl rfl (by decide) ?_
      refine wp_getR (r' := 3) (ci := 9) (k0 := 2) (pc' := 32) rfl rfl (by decide) (by first | assumption | rfl) (hT.get 2 rfl) ?_
      refine wp_iload_n (pc' := 33) rfl rfl rfl ?_
      refine wp_iload_n (pc' := 34) rfl rfl rfl ?_
      refine wp_iconst (a := -1) (pc' := 35) rfl rfl rfl ?_
      refine wp_call (pc' := 38) rfl rfl rfl rfl rfl ⟨Nat.le_of_ble_eq_true rfl, Nat.le_of_ble_eq_true rfl, Nat.le_of_ble_eq_true rfl, Nat.le_of_ble_eq_true rfl, Nat.le_of_ble_eq_true rfl⟩ rfl (c_Paths_steps hT hpr.1.1 hxt hxf) ?_
      rintro v1 w1 ⟨hS1, ⟨hv1, hmt⟩ | ⟨hf1, ht1, hSP, hub, hv1⟩⟩
      · skip
        rw [hv1]
        clear hv1 v1
        have hQ1 : SameF w w1 LQ FQ := qry (hS1.F []) (by decide) (by decide)
        obtain ⟨hT, hr1, hl1, hm1, e31, e41, e51, e61, g111, g121, g101, g71, g81, g91, hx1⟩ := vw hI hn0 hQ1
        dsimp only [Option.toList, List.cons_append, List.nil_append, List.append_nil]
        refine wp_istore_n (pc' := 39) rfl rfl (Nat.le_of_ble_eq_true rfl) rfl ?_
        dsimp only [lset, lset2, List.set, List.getElem?_cons_zero, List.getElem?_cons_succ]
        refine wp_iload_n (pc' := 40) rfl rfl rfl ?_
        refine wp_iconst (a := -1) (pc' := 41) rfl rfl rfl ?_
        refine wp_icmp_ne (pc' := 44) (pt := 47) rfl rfl rfl (fun q_3 => absurd q_3 (by decide)) (fun q_3 => ?_)
        refine wp_bipush (a := -9) (pc' := 46) rfl rfl rfl ?_
        refine wp_ret rfl rfl rfl ?_
        refine ⟨_, rfl, ?_, ?_⟩
        · exact hS1 (-2) (by decide)
        obtain ⟨w3, hw3⟩ : ∃ x, x = w1 := ⟨_, rfl⟩
        rw [← hw3]
        have hQ3 : SameF w w3 LQ FQ := by rw [hw3]; exact hQ1
        have e314 : w3 0 14 = w3 100 2 := by rw [hw3, hS1 0 (by decide), hS1 100 (by decide)]; exact hITo
        obtain ⟨hT, hr3, hl3, hm3, e33, e43, e53, e63, g113, g123, g103, g73, g83, g93, hx3⟩ := vw hI hn0 hQ3
        refine wp_aload_n (pc' := 1) rfl rfl rfl (by decide) ?_
        refine wp_iload_n (pc' := 2) rfl rfl rfl ?_
        refine wp_call (pc' := 5) rfl rfl rfl rfl rfl ⟨Nat.le_of_ble_eq_true rfl, Nat.le_of_ble_eq_true rfl, Nat.le_of_ble_eq_true rfl, Nat.le_of_ble_eq_true rfl, Nat.le_of_ble_eq_true rfl⟩ rfl (c_Mod_isCell (by rw [g113, g123]; exact hn25)) ?_
        rintro v1 w9 ⟨hw9, ⟨hv1, hc1⟩ | ⟨hv1, hc1⟩⟩
        · skip
          rw [hv1, hw9]
          clear hv1 hw9 v1 w9
          rw [g113, g123] at hc1
          dsimp only [Option.toList, List.cons_append, List.nil_append, List.append_nil]
          refine wp_if_eq (pc' := 8) (pt := 16) rfl rfl rfl (fun q_54 => absurd q_54 (by decide)) (fun q_54 => ?_)
          refine wp_aload_n (pc' := 9) rfl rfl rfl (by decide) ?_
          refine wp_iload_n (pc' := 10) rfl rfl rfl ?_
          refine wp_call (pc' := 13) rfl rfl rfl rfl rfl ⟨Nat.le_of_ble_eq_true rfl, Nat.le_of_ble_eq_true rfl, Nat.le_of_ble_eq_true rfl, Nat.le_of_ble_eq_true rfl, Nat.le_of_ble_eq_true rfl⟩ rfl (c_Mod_isCell (by rw [g113, g123]; exact hn25)) ?_
          rintro v1 w9 ⟨hw9, ⟨hv1, hc2⟩ | ⟨hv1, hc2⟩⟩
          · skip
            rw [hv1, hw9]
            clear hv1 hw9 v1 w9
            rw [g113, g123] at hc2
            dsimp only [Option.toList, List.cons_append, List.nil_append, List.append_nil]
            refine wp_if_ne (pc' := 16) (pt := 18) rfl rfl rfl (fun q_55 => ?_) (fun q_55 => absurd (by decide) q_55)
            refine wp_aload_n (pc' := 19) rfl rfl rfl (by decide) ?_
            refine wp_iload_n (pc' := 20) rfl rfl rfl ?_
            refine wp_iconst (a := -1) (pc' := 21) rfl rfl rfl ?_
            refine wp_call (pc' := 24) rfl rfl rfl rfl rfl ⟨Nat.le_of_ble_eq_true rfl, Nat.le_of_ble_eq_true rfl, Nat.le_of_ble_eq_true rfl, Nat.le_of_ble_eq_true rfl, Nat.le_of_ble_eq_true rfl⟩ rfl (c_Mod_laySteps hT hm3.1 (by rw [g113, g123]; exact hxt)) ?_
            rintro v1 w4 ⟨hv1, hS4, A, hRA, hKA, hSA⟩
            rw [hv1]
            clear hv1 v1
            have hQ4 : SameF w w4 LQ FQ := hQ3.tr (qry (hS4.F []) (by decide) (by decide))
            rw [g113, g123] at hRA
            rw [g113, g123, g93, m0] at hKA hSA
            have hnw := nw_ref hpr.1.1 hxf hKA hSA
            have hrf := hRA fr hxf
            obtain ⟨hT, hr4, hl4, hm4, e34, e44, e54, e64, g114, g124, g104, g74, g84, g94, hx4⟩ := vw hI hn0 hQ4
            dsimp only [Option.toList, List.cons_append, List.nil_append, List.append_nil]
            have hnA : A fr = -1 := hnw.2 (by rcases hmt with z | z; exact Or.inl z; exact Or.inr (Or.inl z))
            rw [if_pos hnA] at hrf
            refine wp_aload_n (pc' := 25) rfl rfl rfl (by decide) ?_
            refine wp_getR (r' := 121) (ci := 10) (k0 := 31) (pc' := 28) rfl rfl (by decide) (by first | assumption | rfl) (hT.get 119 rfl) ?_
            refine wp_iload_n (pc' := 29) rfl rfl rfl ?_
            refine wp_iaload (pc' := 30) rfl rfl (by first | assumption | rfl) (by omega) ?_
            refine wp_ldc (a := 1000000) (pc' := 32) rfl rfl rfl ?_
            refine wp_icmp_lt (pc' := 35) (pt := 38) rfl rfl rfl (fun q_56 => ?_) (fun q_56 => ?_)
            · skip
              exfalso; omega
            · skip
              refine wp_bipush (a := -9) (pc' := 37) rfl rfl rfl ?_
              refine wp_ret rfl rfl rfl ?_
              first
              | (exfalso; omega)
              | exact ⟨rfl, hS4 (-2) (by decide), hI.query (w' := w4) hQ4 (by rw [hS4 0 (by decide), hS4 100 (by decide)]; exact e314)⟩
          · skip
            rw [hv1, hw9]
            clear hv1 hw9 v1 w9
            rw [g113, g123] at hc2
            dsimp only [Option.toList, List.cons_append, List.nil_append, List.append_nil]
            refine wp_if_ne (pc' := 16) (pt := 18) rfl rfl rfl (fun q_57 => absurd q_57 (by decide)) (fun q_57 => ?_)
            exfalso; omega
        · skip
          rw [hv1, hw9]
          clear hv1 hw9 v1 w9
          rw [g113, g123] at hc1
          dsimp only [Option.toList, List.cons_append, List.nil_append, List.append_nil]
          refine wp_if_eq (pc' := 8) (pt := 16) rfl rfl rfl (fun q_58 => ?_) (fun q_58 => absurd (by decide) q_58)
          exfalso; omega
      · skip
        rw [hv1]
        clear hv1 v1
        have hQ1 : SameF w w1 LQ FQ := qry (hS1.F []) (by decide) (by decide)
        obtain ⟨hT, hr1, hl1, hm1, e31, e41, e51, e61, g111, g121, g101, g71, g81, g91, hx1⟩ := vw hI hn0 hQ1
        have hvb : -1 ≤ w1 48 fr ∧ w1 48 fr ≤ 25 := ⟨hSP.1 fr hxf, hub fr hxf⟩
        dsimp only [Option.toList, List.cons_append, List.nil_append, List.append_nil]
        refine wp_istore_n (pc' := 39) rfl rfl (Nat.le_of_ble_eq_true rfl) rfl ?_
        dsimp only [lset, lset2, List.set, List.getElem?_cons_zero, List.getElem?_cons_succ]
        refine wp_iload_n (pc' := 40) rfl rfl rfl ?_
        refine wp_iconst (a := -1) (pc' := 41) rfl rfl rfl ?_
        refine wp_icmp_ne (pc' := 44) (pt := 47) rfl rfl rfl (fun q_59 => ?_) (fun q_59 => ?_)
        · skip
          refine wp_aload_n (pc' := 48) rfl rfl rfl (by decide) ?_
          refine wp_aload_n (pc' := 49) rfl rfl rfl (by decide) ?_
          refine wp_getR (r' := 47) (ci := 9) (k0 := 10) (pc' := 52) rfl rfl (by decide) (by first | assumption | rfl) (hT.get 10 rfl) ?_
          refine wp_aload_n (pc' := 53) rfl rfl rfl (by decide) ?_
          refine wp_getR (r' := 3) (ci := 9) (k0 := 2) (pc' := 56) rfl rfl (by decide) (by first | assumption | rfl) (hT.get 2 rfl) ?_
          refine wp_iload_n (pc' := 57) rfl rfl rfl ?_
          refine wp_call (pc' := 60) rfl rfl rfl rfl rfl ⟨Nat.le_of_ble_eq_true rfl, Nat.le_of_ble_eq_true rfl, Nat.le_of_ble_eq_true rfl, Nat.le_of_ble_eq_true rfl, Nat.le_of_ble_eq_true rfl⟩ rfl (c_Paths_firstWay hT hl1.1 (by rw [e31]; exact hxf) hvb) ?_
          intro v1 w9 hq1
          rw [hq1.1, hq1.2]
          clear hq1 v1 w9
          rw [e31]
          dsimp only [Option.toList, List.cons_append, List.nil_append, List.append_nil]
          refine wp_putI (ci := 9) (k0 := 14) (pc' := 63) rfl rfl (by decide) (by first | assumption | rfl) ?_
          refine wp_iload_n (pc' := 64) rfl rfl rfl ?_
          refine wp_ret rfl rfl rfl ?_
          refine ⟨_, rfl, ?_, ?_⟩
          · rw [up_ne (by decide)]; exact hS1 (-2) (by decide)
          obtain ⟨w3, hw3⟩ : ∃ x, x = up w1 0 14 (fwR (w 3 0) (w 3 1) (w1 48) fr 4) := ⟨_, rfl⟩
          rw [← hw3]
          have hQ3 : SameF w w3 LQ FQ := by rw [hw3]; exact hQ1.put (Or.inr (by decide))
          have e314 : w3 0 14 = fwR (w 3 0) (w 3 1) (w1 48) fr 4 := by rw [hw3, up_eq]
          obtain ⟨hT, hr3, hl3, hm3, e33, e43, e53, e63, g113, g123, g103, g73, g83, g93, hx3⟩ := vw hI hn0 hQ3
          refine wp_aload_n (pc' := 1) rfl rfl rfl (by decide) ?_
          refine wp_iload_n (pc' := 2) rfl rfl rfl ?_
          refine wp_call (pc' := 5) rfl rfl rfl rfl rfl ⟨Nat.le_of_ble_eq_true rfl, Nat.le_of_ble_eq_true rfl, Nat.le_of_ble_eq_true rfl, Nat.le_of_ble_eq_true rfl, Nat.le_of_ble_eq_true rfl⟩ rfl (c_Mod_isCell (by rw [g113, g123]; exact hn25)) ?_
          rintro v1 w9 ⟨hw9, ⟨hv1, hc1⟩ | ⟨hv1, hc1⟩⟩
          · skip
            rw [hv1, hw9]
            clear hv1 hw9 v1 w9
            rw [g113, g123] at hc1
            dsimp only [Option.toList, List.cons_append, List.nil_append, List.append_nil]
            refine wp_if_eq (pc' := 8) (pt := 16) rfl rfl rfl (fun q_110 => absurd q_110 (by decide)) (fun q_110 => ?_)
            refine wp_aload_n (pc' := 9) rfl rfl rfl (by decide) ?_
            refine wp_iload_n (pc' := 10) rfl rfl rfl ?_
            refine wp_call (pc' := 13) rfl rfl rfl rfl rfl ⟨Nat.le_of_ble_eq_true rfl, Nat.le_of_ble_eq_true rfl, Nat.le_of_ble_eq_true rfl, Nat.le_of_ble_eq_true rfl, Nat.le_of_ble_eq_true rfl⟩ rfl (c_Mod_isCell (by rw [g113, g123]; exact hn25)) ?_
            rintro v1 w9 ⟨hw9, ⟨hv1, hc2⟩ | ⟨hv1, hc2⟩⟩
            · skip
              rw [hv1, hw9]
              clear hv1 hw9 v1 w9
              rw [g113, g123] at hc2
              dsimp only [Option.toList, List.cons_append, List.nil_append, List.append_nil]
              refine wp_if_ne (pc' := 16) (pt := 18) rfl rfl rfl (fun q_111 => ?_) (fun q_111 => absurd (by decide) q_111)
              refine wp_aload_n (pc' := 19) rfl rfl rfl (by decide) ?_
              refine wp_iload_n (pc' := 20) rfl rfl rfl ?_
              refine wp_iconst (a := -1) (pc' := 21) rfl rfl rfl ?_
              refine wp_call (pc' := 24) rfl rfl rfl rfl rfl ⟨Nat.le_of_ble_eq_true rfl, Nat.le_of_ble_eq_true rfl, Nat.le_of_ble_eq_true rfl, Nat.le_of_ble_eq_true rfl, Nat.le_of_ble_eq_true rfl⟩ rfl (c_Mod_laySteps hT hm3.1 (by rw [g113, g123]; exact hxt)) ?_
              rintro v1 w4 ⟨hv1, hS4, A, hRA, hKA, hSA⟩
              rw [hv1]
              clear hv1 v1
              have hQ4 : SameF w w4 LQ FQ := hQ3.tr (qry (hS4.F []) (by decide) (by decide))
              rw [g113, g123] at hRA
              rw [g113, g123, g93, m0] at hKA hSA
              have hnw := nw_ref hpr.1.1 hxf hKA hSA
              have hrf := hRA fr hxf
              obtain ⟨hT, hr4, hl4, hm4, e34, e44, e54, e64, g114, g124, g104, g74, g84, g94, hx4⟩ := vw hI hn0 hQ4
              dsimp only [Option.toList, List.cons_append, List.nil_append, List.append_nil]
              have haf0 : A fr = w1 48 fr := sp_eq hpr.1.1 (hSA ht1) hSP hxf
              have hrf2 : w4 121 fr = if w1 48 fr = -1 then 1000000 else w1 48 fr := by rw [← haf0]; exact hrf
              rw [if_neg (by omega)] at hrf2
              refine wp_aload_n (pc' := 25) rfl rfl rfl (by decide) ?_
              refine wp_getR (r' := 121) (ci := 10) (k0 := 31) (pc' := 28) rfl rfl (by decide) (by first | assumption | rfl) (hT.get 119 rfl) ?_
              refine wp_iload_n (pc' := 29) rfl rfl rfl ?_
              refine wp_iaload (pc' := 30) rfl rfl (by first | assumption | rfl) (by omega) ?_
              refine wp_ldc (a := 1000000) (pc' := 32) rfl rfl rfl ?_
              refine wp_icmp_lt (pc' := 35) (pt := 38) rfl rfl rfl (fun q_112 => ?_) (fun q_112 => ?_)
              · skip
                refine wp_iconst (a := 0) (pc' := 39) rfl rfl rfl ?_
                refine wp_istore_n (pc' := 40) rfl rfl (Nat.le_of_ble_eq_true rfl) rfl ?_
                dsimp only [lset, lset2, List.set, List.getElem?_cons_zero, List.getElem?_cons_succ]
                refine wp_iconst (a := 4) (pc' := 41) rfl rfl rfl ?_
                refine wp_istore (pc' := 43) rfl rfl (Nat.le_of_ble_eq_true rfl) rfl ?_
                dsimp only [lset, lset2, List.set, List.getElem?_cons_zero, List.getElem?_cons_succ]
                have haa : ∀ x : Int, Cel (w 3 0) (w 3 1) x → A x = w1 48 x := fun x hx => sp_eq hpr.1.1 (hSA ht1) hSP hx
                have haf : A fr = w1 48 fr := haa fr hxf
                refine l_Mway (A := A) hT hm4.1 (by rw [g114, g124]; exact hxf) (by rw [g114, g124]; exact hRA) (fun x hx => by rw [g114, g124] at hx; rw [haa x hx]; exact ⟨hSP.1 x hx, hub x hx⟩) (by omega) (fun x5 => ?_) 4 0 _ _ _ rfl rfl rfl
                refine wp_aload_n (pc' := 94) rfl rfl rfl (by decide) ?_
                refine wp_iload_n (pc' := 95) rfl rfl rfl ?_
                refine wp_aload_n (pc' := 96) rfl rfl rfl (by decide) ?_
                refine wp_getR (r' := 121) (ci := 10) (k0 := 31) (pc' := 99) rfl rfl (by decide) (by first | assumption | rfl) (hT.get 119 rfl) ?_
                refine wp_iload_n (pc' := 100) rfl rfl rfl ?_
                refine wp_iaload (pc' := 101) rfl rfl (by first | assumption | rfl) (by omega) ?_
                refine wp_call (pc' := 104) rfl rfl rfl rfl rfl ⟨Nat.le_of_ble_eq_true rfl, Nat.le_of_ble_eq_true rfl, Nat.le_of_ble_eq_true rfl, Nat.le_of_ble_eq_true rfl, Nat.le_of_ble_eq_true rfl⟩ rfl (c_Mod_tells) ?_
                rintro v1 w6 ⟨hv1, hw6⟩
                rw [hv1]
                clear hv1 v1
                dsimp only [Option.toList, List.cons_append, List.nil_append, List.append_nil]
                refine wp_ret rfl rfl rfl ?_
                refine ⟨by rw [hrf, if_neg (by omega), haf], ?_, hI.query (w' := w6) ?_ ?_⟩
                · rw [hw6, up_ne (by decide), hS4 _ (by decide)]
                · rw [hw6]
                  exact hQ4.put (Or.inr (by decide))
                · rw [hw6, up_eq, up_ne (by decide), hS4 0 (by decide), e314, g114, g124]
                  exact (fwR_congr hpr.1.1 hxf (fun x hx => (haa x hx).symm) 4)
              · skip
                refine wp_bipush (a := -9) (pc' := 37) rfl rfl rfl ?_
                refine wp_ret rfl rfl rfl ?_
                first
                | (exfalso; omega)
                | exact ⟨rfl, hS4 (-2) (by decide), hI.query (w' := w4) hQ4 (by rw [hS4 0 (by decide), hS4 100 (by decide)]; exact e314)⟩
            · skip
              rw [hv1, hw9]
              clear hv1 hw9 v1 w9
              rw [g113, g123] at hc2
              dsimp only [Option.toList, List.cons_append, List.nil_append, List.append_nil]
              refine wp_if_ne (pc' := 16) (pt := 18) rfl rfl rfl (fun q_133 => absurd q_133 (by decide)) (fun q_133 => ?_)
              exfalso; omega
          · skip
            rw [hv1, hw9]
            clear hv1 hw9 v1 w9
            rw [g113, g123] at hc1
            dsimp only [Option.toList, List.cons_append, List.nil_append, List.append_nil]
            refine wp_if_eq (pc' := 8) (pt := 16) rfl rfl rfl (fun q_134 => ?_) (fun q_134 => absurd (by decide) q_134)
            exfalso; omega
        · skip
          refine wp_bipush (a := -9) (pc' := 46) rfl rfl rfl ?_
          refine wp_ret rfl rfl rfl ?_
          refine ⟨_, rfl, ?_, ?_⟩
          · exact hS1 (-2) (by decide)
          obtain ⟨w3, hw3⟩ : ∃ x, x = w1 := ⟨_, rfl⟩
          rw [← hw3]
          have hQ3 : SameF w w3 LQ FQ := by rw [hw3]; exact hQ1
          have e314 : w3 0 14 = w3 100 2 := by rw [hw3, hS1 0 (by decide), hS1 100 (by decide)]; exact hITo
          obtain ⟨hT, hr3, hl3, hm3, e33, e43, e53, e63, g113, g123, g103, g73, g83, g93, hx3⟩ := vw hI hn0 hQ3
          refine wp_aload_n (pc' := 1) rfl rfl rfl (by decide) ?_
          refine wp_iload_n (pc' := 2) rfl rfl rfl ?_
          refine wp_call (pc' := 5) rfl rfl rfl rfl rfl ⟨Nat.le_of_ble_eq_true rfl, Nat.le_of_ble_eq_true rfl, Nat.le_of_ble_eq_true rfl, Nat.le_of_ble_eq_true rfl, Nat.le_of_ble_eq_true rfl⟩ rfl (c_Mod_isCell (by rw [g113, g123]; exact hn25)) ?_
          rintro v1 w9 ⟨hw9, ⟨hv1, hc1⟩ | ⟨hv1, hc1⟩⟩
          · skip
            rw [hv1, hw9]
            clear hv1 hw9 v1 w9
            rw [g113, g123] at hc1
            dsimp only [Option.toList, List.cons_append, List.nil_append, List.append_nil]
            refine wp_if_eq (pc' := 8) (pt := 16) rfl rfl rfl (fun q_185 => absurd q_185 (by decide)) (fun q_185 => ?_)
            refine wp_aload_n (pc' := 9) rfl rfl rfl (by decide) ?_
            refine wp_iload_n (pc' := 10) rfl rfl rfl ?_
            refine wp_call (pc' := 13) rfl rfl rfl rfl rfl ⟨Nat.le_of_ble_eq_true rfl, Nat.le_of_ble_eq_true rfl, Nat.le_of_ble_eq_true rfl, Nat.le_of_ble_eq_true rfl, Nat.le_of_ble_eq_true rfl⟩ rfl (c_Mod_isCell (by rw [g113, g123]; exact hn25)) ?_
            rintro v1 w9 ⟨hw9, ⟨hv1, hc2⟩ | ⟨hv1, hc2⟩⟩
            · skip
              rw [hv1, hw9]
              clear hv1 hw9 v1 w9
              rw [g113, g123] at hc2
              dsimp only [Option.toList, List.cons_append, List.nil_append, List.append_nil]
              refine wp_if_ne (pc' := 16) (pt := 18) rfl rfl rfl (fun q_186 => ?_) (fun q_186 => absurd (by decide) q_186)
              refine wp_aload_n (pc' := 19) rfl rfl rfl (by decide) ?_
              refine wp_iload_n (pc' := 20) rfl rfl rfl ?_
              refine wp_iconst (a := -1) (pc' := 21) rfl rfl rfl ?_
              refine wp_call (pc' := 24) rfl rfl rfl rfl rfl ⟨Nat.le_of_ble_eq_true rfl, Nat.le_of_ble_eq_true rfl, Nat.le_of_ble_eq_true rfl, Nat.le_of_ble_eq_true rfl, Nat.le_of_ble_eq_true rfl⟩ rfl (c_Mod_laySteps hT hm3.1 (by rw [g113, g123]; exact hxt)) ?_
              rintro v1 w4 ⟨hv1, hS4, A, hRA, hKA, hSA⟩
              rw [hv1]
              clear hv1 v1
              have hQ4 : SameF w w4 LQ FQ := hQ3.tr (qry (hS4.F []) (by decide) (by decide))
              rw [g113, g123] at hRA
              rw [g113, g123, g93, m0] at hKA hSA
              have hnw := nw_ref hpr.1.1 hxf hKA hSA
              have hrf := hRA fr hxf
              obtain ⟨hT, hr4, hl4, hm4, e34, e44, e54, e64, g114, g124, g104, g74, g84, g94, hx4⟩ := vw hI hn0 hQ4
              dsimp only [Option.toList, List.cons_append, List.nil_append, List.append_nil]
              have haf0 : A fr = w1 48 fr := sp_eq hpr.1.1 (hSA ht1) hSP hxf
              have hrf2 : w4 121 fr = if w1 48 fr = -1 then 1000000 else w1 48 fr := by rw [← haf0]; exact hrf
              rw [if_pos (by omega)] at hrf2
              refine wp_aload_n (pc' := 25) rfl rfl rfl (by decide) ?_
              refine wp_getR (r' := 121) (ci := 10) (k0 := 31) (pc' := 28) rfl rfl (by decide) (by first | assumption | rfl) (hT.get 119 rfl) ?_
              refine wp_iload_n (pc' := 29) rfl rfl rfl ?_
              refine wp_iaload (pc' := 30) rfl rfl (by first | assumption | rfl) (by omega) ?_
              refine wp_ldc (a := 1000000) (pc' := 32) rfl rfl rfl ?_
              refine wp_icmp_lt (pc' := 35) (pt := 38) rfl rfl rfl (fun q_187 => ?_) (fun q_187 => ?_)
              · skip
                exfalso; omega
              · skip
                refine wp_bipush (a := -9) (pc' := 37) rfl rfl rfl ?_
                refine wp_ret rfl rfl rfl ?_
                first
                | (exfalso; omega)
                | exact ⟨rfl, hS4 (-2) (by decide), hI.query (w' := w4) hQ4 (by rw [hS4 0 (by decide), hS4 100 (by decide)]; exact e314)⟩
            · skip
              rw [hv1, hw9]
              clear hv1 hw9 v1 w9
              rw [g113, g123] at hc2
              dsimp only [Option.toList, List.cons_append, List.nil_append, List.append_nil]
              refine wp_if_ne (pc' := 16) (pt := 18) rfl rfl rfl (fun q_188 => absurd q_188 (by decide)) (fun q_188 => ?_)
              exfalso; omega
          · skip
            rw [hv1, hw9]
            clear hv1 hw9 v1 w9
            rw [g113, g123] at hc1
            dsimp only [Option.toList, List.cons_append, List.nil_append, List.append_nil]
            refine wp_if_eq (pc' := 8) (pt := 16) rfl rfl rfl (fun q_189 => ?_) (fun q_189 => absurd (by decide) q_189)
            exfalso; omega
    · skip
      rw [hv1, hw9]
      clear hv1 hw9 v1 w9
      dsimp only [Option.toList, List.cons_append, List.nil_append, List.append_nil]
      refine wp_if_ne (pc' := 22) (pt := 24) rfl rfl rfl (fun q_190 => absurd q_190 (by decide)) (fun q_190 => ?_)
      refine wp_iconst (a := -1) (pc' := 23) rfl rfl rfl ?_
      refine wp_ret rfl rfl rfl ?_
      refine ⟨_, rfl, ?_, ?_⟩
      · rfl
      refine wp_aload_n (pc' := 1) rfl rfl rfl (by decide) ?_
      refine wp_iload_n (pc' := 2) rfl rfl rfl ?_
      refine wp_call (pc' := 5) rfl rfl rfl rfl rfl ⟨Nat.le_of_ble_eq_true rfl, Nat.le_of_ble_eq_true rfl, Nat.le_of_ble_eq_true rfl, Nat.le_of_ble_eq_true rfl, Nat.le_of_ble_eq_true rfl⟩ rfl (c_Mod_isCell (by omega)) ?_
      rintro v1 w9 ⟨hw9, ⟨hv1, hc1⟩ | ⟨hv1, hc1⟩⟩
      · skip
        rw [hv1, hw9]
        clear hv1 hw9 v1 w9
        dsimp only [Option.toList, List.cons_append, List.nil_append, List.append_nil]
        refine wp_if_eq (pc' := 8) (pt := 16) rfl rfl rfl (fun q_241 => absurd q_241 (by decide)) (fun q_241 => ?_)
        refine wp_aload_n (pc' := 9) rfl rfl rfl (by decide) ?_
        refine wp_iload_n (pc' := 10) rfl rfl rfl ?_
        refine wp_call (pc' := 13) rfl rfl rfl rfl rfl ⟨Nat.le_of_ble_eq_true rfl, Nat.le_of_ble_eq_true rfl, Nat.le_of_ble_eq_true rfl, Nat.le_of_ble_eq_true rfl, Nat.le_of_ble_eq_true rfl⟩ rfl (c_Mod_isCell (by omega)) ?_
        rintro v1 w9 ⟨hw9, ⟨hv1, hc2⟩ | ⟨hv1, hc2⟩⟩
        · skip
          rw [hv1, hw9]
          clear hv1 hw9 v1 w9
          dsimp only [Option.toList, List.cons_append, List.nil_append, List.append_nil]
          refine wp_if_ne (pc' := 16) (pt := 18) rfl rfl rfl (fun q_242 => ?_) (fun q_242 => absurd (by decide) q_242)
          exfalso; omega
        · skip
          rw [hv1, hw9]
          clear hv1 hw9 v1 w9
          dsimp only [Option.toList, List.cons_append, List.nil_append, List.append_nil]
          refine wp_if_ne (pc' := 16) (pt := 18) rfl rfl rfl (fun q_243 => absurd q_243 (by decide)) (fun q_243 => ?_)
          refine wp_iconst (a := -1) (pc' := 17) rfl rfl rfl ?_
          refine wp_ret rfl rfl rfl ?_
          first
          | (exfalso; omega)
          | exact ⟨rfl, rfl, hI⟩
      · skip
        rw [hv1, hw9]
        clear hv1 hw9 v1 w9
        dsimp only [Option.toList, List.cons_append, List.nil_append, List.append_nil]
        refine wp_if_eq (pc' := 8) (pt := 16) rfl rfl rfl (fun q_244 => ?_) (fun q_244 => absurd (by decide) q_244)
        refine wp_iconst (a := -1) (pc' := 17) rfl rfl rfl ?_
        refine wp_ret rfl rfl rfl ?_
        first
        | (exfalso; omega)
        | exact ⟨rfl, rfl, hI⟩
  · skip
    rw [hv1, hw9]
    clear hv1 hw9 v1 w9
    dsimp only [Option.toList, List.cons_append, List.nil_append, List.append_nil]
    refine wp_if_eq (pc' := 11) (pt := 22) rfl rfl rfl (fun q_245 => ?_) (fun q_245 => absurd (by decide) q_245)
    refine wp_iconst (a := -1) (pc' := 23) rfl rfl rfl ?_
    refine wp_ret rfl rfl rfl ?_
    refine ⟨_, rfl, ?_, ?_⟩
    · rfl
    refine wp_aload_n (pc' := 1) rfl rfl rfl (by decide) ?_
    refine wp_iload_n (pc' := 2) rfl rfl rfl ?_
    refine wp_call (pc' := 5) rfl rfl rfl rfl rfl ⟨Nat.le_of_ble_eq_true rfl, Nat.le_of_ble_eq_true rfl, Nat.le_of_ble_eq_true rfl, Nat.le_of_ble_eq_true rfl, Nat.le_of_ble_eq_true rfl⟩ rfl (c_Mod_isCell (by omega)) ?_
    rintro v1 w9 ⟨hw9, ⟨hv1, hc1⟩ | ⟨hv1, hc1⟩⟩
    · skip
      rw [hv1, hw9]
      clear hv1 hw9 v1 w9
      dsimp only [Option.toList, List.cons_append, List.nil_append, List.append_nil]
      refine wp_if_eq (pc' := 8) (pt := 16) rfl rfl rfl (fun q_296 => absurd q_296 (by decide)) (fun q_296 => ?_)
      refine wp_aload_n (pc' := 9) rfl rfl rfl (by decide) ?_
      refine wp_iload_n (pc' := 10) rfl rfl rfl ?_
      refine wp_call (pc' := 13) rfl rfl rfl rfl rfl ⟨Nat.le_of_ble_eq_true rfl, Nat.le_of_ble_eq_true rfl, Nat.le_of_ble_eq_true rfl, Nat.le_of_ble_eq_true rfl, Nat.le_of_ble_eq_true rfl⟩ rfl (c_Mod_isCell (by omega)) ?_
      rintro v1 w9 ⟨hw9, ⟨hv1, hc2⟩ | ⟨hv1, hc2⟩⟩
      · skip
        rw [hv1, hw9]
        clear hv1 hw9 v1 w9
        dsimp only [Option.toList, List.cons_append, List.nil_append, List.append_nil]
        refine wp_if_ne (pc' := 16) (pt := 18) rfl rfl rfl (fun q_297 => ?_) (fun q_297 => absurd (by decide) q_297)
        exfalso; omega
      · skip
        rw [hv1, hw9]
        clear hv1 hw9 v1 w9
        dsimp only [Option.toList, List.cons_append, List.nil_append, List.append_nil]
        refine wp_if_ne (pc' := 16) (pt := 18) rfl rfl rfl (fun q_298 => absurd q_298 (by decide)) (fun q_298 => ?_)
        refine wp_iconst (a := -1) (pc' := 17) rfl rfl rfl ?_
        refine wp_ret rfl rfl rfl ?_
        first
        | (exfalso; omega)
        | exact ⟨rfl, rfl, hI⟩
    · skip
      rw [hv1, hw9]
      clear hv1 hw9 v1 w9
      dsimp only [Option.toList, List.cons_append, List.nil_append, List.append_nil]
      refine wp_if_eq (pc' := 8) (pt := 16) rfl rfl rfl (fun q_299 => ?_) (fun q_299 => absurd (by decide) q_299)
      refine wp_iconst (a := -1) (pc' := 17) rfl rfl rfl ?_
      refine wp_ret rfl rfl rfl ?_
      first
      | (exfalso; omega)
      | exact ⟨rfl, rfl, hI⟩
