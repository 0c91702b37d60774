/-! years aside, on both sides -/
/-- nothing but the cells of L and the places of F has changed -/
def SameF (w w' : Hp) (L : List Int) (F : List (Int × Int)) : Prop := ∀ r k : Int, r ∉ L → (r, k) ∉ F → w' r k = w r k
theorem SameF.rf (w : Hp) (L : List Int) (F : List (Int × Int)) : SameF w w L F := fun _ _ _ _ => rfl
theorem Same.F {w w' : Hp} {L : List Int} (h : Same w w' L) (F : List (Int × Int)) : SameF w w' L F := fun r k hr _ => by rw [h r hr]
theorem SameF.tr {a b c : Hp} {L : List Int} {F : List (Int × Int)} (h1 : SameF a b L F) (h2 : SameF b c L F) : SameF a c L F := fun r k hr hf => (h2 r k hr hf).trans (h1 r k hr hf)
theorem SameF.mono {a b : Hp} {L M : List Int} {F E : List (Int × Int)} (h : SameF a b L F) (hL : ∀ r ∈ L, r ∈ M) (hF : ∀ q ∈ F, q ∈ E ∨ q.1 ∈ M) : SameF a b M E := fun r k hr hf => h r k (fun z => hr (hL r z)) (fun z => (hF _ z).elim hf hr)
theorem SameF.put {w w1 : Hp} {L : List Int} {F : List (Int × Int)} (h : SameF w w1 L F) {r i x : Int} (hr : r ∈ L ∨ (r, i) ∈ F) : SameF w (up w1 r i x) L F := fun q k hq hf => by
  unfold up
  rw [if_neg (fun z => by
    obtain ⟨z1, z2⟩ := z
    subst z1 z2
    exact hr.elim hq hf)]
  exact h q k hq hf
theorem SameF.cell {w w' : Hp} {L : List Int} {F : List (Int × Int)} (h : SameF w w' L F) (r : Int) (hr : r ∉ L) (hf : ∀ q ∈ F, q.1 ≠ r) : w' r = w r := funext fun k => h r k hr (fun z => hf _ z rfl)
theorem Stc.sameF {w w' : Hp} {L : List Int} {F : List (Int × Int)} (h : Stc w) (hs : SameF w w' L F) (hL : refTab.all (fun q => decide (q.1 ∉ L ∧ (q.1, q.2.1) ∉ F)) = true) : Stc w' := fun q hq => by
  have h1 := of_decide_eq_true (List.all_eq_true.mp hL q hq)
  rw [hs q.1 q.2.1 h1.1 h1.2]
  exact h q hq
theorem MdOK.sameF {w w' : Hp} {L : List Int} {F : List (Int × Int)} (h : MdOK w) (hs : SameF w w' L F) (h1 : (100 : Int) ∉ L ∧ (107 : Int) ∉ L ∧ (108 : Int) ∉ L ∧ (109 : Int) ∉ L) (h2 : ∀ q ∈ F, q.1 ≠ 107 ∧ q.1 ≠ 108 ∧ (q.1 = 100 → q.2 ≠ 10 ∧ q.2 ≠ 11 ∧ q.2 ≠ 12) ∧ (q.1 = 109 → q.2 < 3)) : MdOK w' := by
  have a : ∀ k : Int, k = 10 ∨ k = 11 ∨ k = 12 → w' 100 k = w 100 k := fun k hk => hs 100 k h1.1 (fun z => by have := (h2 _ z).2.2.1 rfl; dsimp only at this; omega)
  have b : w' 107 = w 107 := hs.cell 107 h1.2.1 (fun q hq => (h2 q hq).1)
  have c : w' 108 = w 108 := hs.cell 108 h1.2.2.1 (fun q hq => (h2 q hq).2.1)
  have e : ∀ i : Int, 0 ≤ i → w' 109 (3 + i) = w 109 (3 + i) := fun i hi => hs 109 (3 + i) h1.2.2.2 (fun z => by have := (h2 _ z).2.2.2 rfl; dsimp only at this; omega)
  obtain ⟨q1, q2, q3⟩ := h
  unfold MdOK
  rw [a 10 (by omega), a 11 (by omega), a 12 (by omega), b, c]
  exact ⟨q1, q2, fun i hi0 hi => by rw [e i hi0]; exact q3 i hi0 hi⟩
set_option maxRecDepth 20000 in
set_option maxHeartbeats 4000000 in
theorem c_Years_begin {w : Hp} {d : Nat} (hT : Stc w) : WP SH (d + 0) 76 0 [some (vR 26), some (vR 3)] [] w (fun v w' => v = none ∧ w' = up (up w 26 0 (w 3 3)) 26 2 (w 3 4)) := by
  refine wp_aload_n (pc' := 1) rfl rfl rfl (by decide) ?_
  refine wp_aload_n (pc' := 2) rfl rfl rfl (by decide) ?_
  refine wp_getI (ci := 3) (k0 := 3) (pc' := 5) rfl rfl (by decide) (by first | assumption | rfl) ?_
  refine wp_putI (ci := 8) (k0 := 0) (pc' := 8) rfl rfl (by decide) (by first | assumption | rfl) ?_
  refine wp_aload_n (pc' := 9) rfl rfl rfl (by decide) ?_
  refine wp_aload_n (pc' := 10) rfl rfl rfl (by decide) ?_
  refine wp_getI (ci := 3) (k0 := 4) (pc' := 13) rfl rfl (by decide) (by first | assumption | rfl) ?_
  refine wp_putI (ci := 8) (k0 := 2) (pc' := 16) rfl rfl (by decide) (by first | assumption | rfl) ?_
  refine wp_ret rfl rfl rfl ?_
  exact ⟨rfl, by rw [up_ne (show (3 : Int) ≠ 26 by decide)]⟩
set_option maxRecDepth 20000 in
set_option maxHeartbeats 4000000 in
theorem c_Years_pass {w : Hp} {d : Nat} (hT : Stc w) (hr : ROw w) (hp : LnOK w) (hx : Cel (w 3 0) (w 3 1) (w 26 0)) : WP SH (d + 5) 77 0 [some (vR 26), some (vR 3), some (vR 23), none, none] [] w (fun v w' => v = none ∧ SameF w w' [24, 25] [(26, 0), (26, 2)] ∧ w' 26 0 = sBeside (w 3 0) (w 3 1) (w 26 0) (sWay (w 3 0) (w 3 1) (w 3 2) (w 4) (w 5) (w 6) (w 26 0) (w 26 2)) ∧ w' 26 2 = sAgainst (sWay (w 3 0) (w 3 1) (w 3 2) (w 4) (w 5) (w 6) (w 26 0) (w 26 2))) := by
  have hwy := @sWay_ok _ _ (w 3 2) (w 26 0) (w 26 2) (w 4) (w 5) (w 6) hp.1 hx (fun j a b => (hp.2.2 j a b).2.2)
  refine wp_aload_n (pc' := 1) rfl rfl rfl (by decide) ?_
  refine wp_aload_n (pc' := 2) rfl rfl rfl (by decide) ?_
  refine wp_aload_n (pc' := 3) rfl rfl rfl (by decide) ?_
  refine wp_getI (ci := 8) (k0 := 0) (pc' := 6) rfl rfl (by decide) (by first | assumption | rfl) ?_
  refine wp_aload_n (pc' := 7) rfl rfl rfl (by decide) ?_
  refine wp_getI (ci := 8) (k0 := 2) (pc' := 10) rfl rfl (by decide) (by first | assumption | rfl) ?_
  refine wp_call (pc' := 13) rfl rfl rfl rfl rfl ⟨Nat.le_of_ble_eq_true rfl, Nat.le_of_ble_eq_true rfl, Nat.le_of_ble_eq_true rfl, Nat.le_of_ble_eq_true rfl, Nat.le_of_ble_eq_true rfl⟩ rfl (c_Ballot_hold hT hr hp hx) ?_
  rintro v1 w1 ⟨hv1, hS, hz1, hz2⟩
  rw [hv1]
  clear hv1 v1
  have e3 : w1 3 = w 3 := hS 3 (by decide)
  have e4 : w1 4 = w 4 := hS 4 (by decide)
  have e5 : w1 5 = w 5 := hS 5 (by decide)
  have e6 : w1 6 = w 6 := hS 6 (by decide)
  have e26 : w1 26 = w 26 := hS 26 (by decide)
  have hT1 := hT.same hS (by decide)
  have hr1 := hr.same hS (by decide)
  have hp1 := hp.same hS (by decide)
  have hx1 : Cel (w1 3 0) (w1 3 1) (w1 26 0) := by rw [e3, e26]; exact hx
  dsimp only [Option.toList, List.cons_append, List.nil_append, List.append_nil]
  refine wp_aload_n (pc' := 14) rfl rfl rfl (by decide) ?_
  refine wp_call (pc' := 17) rfl rfl rfl rfl rfl ⟨Nat.le_of_ble_eq_true rfl, Nat.le_of_ble_eq_true rfl, Nat.le_of_ble_eq_true rfl, Nat.le_of_ble_eq_true rfl, Nat.le_of_ble_eq_true rfl⟩ rfl (c_Ballot_winner hT1) ?_
  intro v1 w2 hq1
  rw [hq1.1, hq1.2]
  clear hq1 v1 w2
  have hwe : sWin (w1 25) = sWay (w 3 0) (w 3 1) (w 3 2) (w 4) (w 5) (w 6) (w 26 0) (w 26 2) := sWin_congr (fun j a b => hz2 j a (by omega))
  rw [hwe]
  dsimp only [Option.toList, List.cons_append, List.nil_append, List.append_nil]
  refine wp_istore_n (pc' := 18) rfl rfl (Nat.le_of_ble_eq_true rfl) rfl ?_
  dsimp only [lset, lset2, List.set, List.getElem?_cons_zero, List.getElem?_cons_succ]
  refine wp_aload_n (pc' := 19) rfl rfl rfl (by decide) ?_
  refine wp_aload_n (pc' := 20) rfl rfl rfl (by decide) ?_
  refine wp_getI (ci := 8) (k0 := 0) (pc' := 23) rfl rfl (by decide) (by first | assumption | rfl) ?_
  refine wp_iload_n (pc' := 24) rfl rfl rfl ?_
  refine wp_call (pc' := 27) rfl rfl rfl rfl rfl ⟨Nat.le_of_ble_eq_true rfl, Nat.le_of_ble_eq_true rfl, Nat.le_of_ble_eq_true rfl, Nat.le_of_ble_eq_true rfl, Nat.le_of_ble_eq_true rfl⟩ rfl (c_Land_beside hp1.1 hx1) ?_
  intro v1 w2 hq1
  rw [hq1.1, hq1.2]
  clear hq1 v1 w2
  dsimp only [Option.toList, List.cons_append, List.nil_append, List.append_nil]
  refine wp_istore (pc' := 29) rfl rfl (Nat.le_of_ble_eq_true rfl) rfl ?_
  dsimp only [lset, lset2, List.set, List.getElem?_cons_zero, List.getElem?_cons_succ]
  refine wp_aload_n (pc' := 30) rfl rfl rfl (by decide) ?_
  refine wp_iload (pc' := 32) rfl rfl rfl ?_
  refine wp_iconst (a := -1) (pc' := 33) rfl rfl rfl ?_
  refine wp_icmp_ne (pc' := 36) (pt := 43) rfl rfl rfl (fun q_1 => ?_) (fun q_1 => ?_)
  · skip
    refine wp_iload (pc' := 45) rfl rfl rfl ?_
    refine wp_putI (ci := 8) (k0 := 0) (pc' := 48) rfl rfl (by decide) (by first | assumption | rfl) ?_
    refine wp_aload_n (pc' := 49) rfl rfl rfl (by decide) ?_
    refine wp_iload_n (pc' := 50) rfl rfl rfl ?_
    refine wp_call (pc' := 53) rfl rfl rfl rfl rfl ⟨Nat.le_of_ble_eq_true rfl, Nat.le_of_ble_eq_true rfl, Nat.le_of_ble_eq_true rfl, Nat.le_of_ble_eq_true rfl, Nat.le_of_ble_eq_true rfl⟩ rfl (c_Land_against (hr1.same (L := [26]) (fun r hr => by rw [up_ne (fun z => hr (by rw [z]; decide))]) (by decide)) ⟨hwy.1, hwy.2.1⟩) ?_
    intro v1 w2 hq1
    rw [hq1.1, hq1.2]
    clear hq1 v1 w2
    dsimp only [Option.toList, List.cons_append, List.nil_append, List.append_nil]
    refine wp_putI (ci := 8) (k0 := 2) (pc' := 56) rfl rfl (by decide) (by first | assumption | rfl) ?_
    refine wp_ret rfl rfl rfl ?_
    exact ⟨rfl, ((hS.F _).put (Or.inr (by decide))).put (Or.inr (by decide)), by rw [up_at (by decide), up_eq, e3, e26], by rw [up_eq]⟩
  · skip
    exact absurd (by rw [e3, e26]; exact hwy.2.2) q_1
set_option maxRecDepth 20000 in
set_option maxHeartbeats 4000000 in
theorem c_Mod_passes_now {w : Hp} {d : Nat} (hT : Stc w) (hp : MdOK w) (hx : Cel (w 100 11) (w 100 12) (w 109 0)) (hy : 0 ≤ w 109 2 ∧ w 109 2 ≤ 1000000) : WP SH (d + 7) 182 0 [some (vR 100), some (vR 109), none] [] w (fun v w' => v = none ∧ SameF w w' [113] [(109, 0), (109, 1), (109, 2)] ∧ w' 109 0 = sBeside (w 100 11) (w 100 12) (w 109 0) (sWay (w 100 11) (w 100 12) (w 100 10) (w 107) (fun i => w 109 (3 + i)) (w 108) (w 109 0) (w 109 1)) ∧ w' 109 1 = sAgainst (sWay (w 100 11) (w 100 12) (w 100 10) (w 107) (fun i => w 109 (3 + i)) (w 108) (w 109 0) (w 109 1)) ∧ w' 109 2 = w 109 2 + 1) := by
  have hwy := @sWay_ok _ _ (w 100 10) (w 109 0) (w 109 1) (w 107) (fun i => w 109 (3 + i)) (w 108) hp.1 hx (fun j a b => (hp.2.2 j a b).2.2)
  refine wp_aload_n (pc' := 1) rfl rfl rfl (by decide) ?_
  refine wp_aload_n (pc' := 2) rfl rfl rfl (by decide) ?_
  refine wp_iconst (a := 0) (pc' := 3) rfl rfl rfl ?_
  refine wp_iaload (pc' := 4) rfl rfl (by first | assumption | rfl) (by omega) ?_
  refine wp_aload_n (pc' := 5) rfl rfl rfl (by decide) ?_
  refine wp_iconst (a := 1) (pc' := 6) rfl rfl rfl ?_
  refine wp_iaload (pc' := 7) rfl rfl (by first | assumption | rfl) (by omega) ?_
  refine wp_call (pc' := 10) rfl rfl rfl rfl rfl ⟨Nat.le_of_ble_eq_true rfl, Nat.le_of_ble_eq_true rfl, Nat.le_of_ble_eq_true rfl, Nat.le_of_ble_eq_true rfl, Nat.le_of_ble_eq_true rfl⟩ rfl (c_Mod_carriedFrom hT hp hx) ?_
  rintro v1 w1 ⟨hv1, hS, hz1⟩
  rw [hv1]
  clear hv1 v1
  have eo : w1 109 = w 109 := hS 109 (by decide)
  have e100 : w1 100 = w 100 := hS 100 (by decide)
  have hx1 : Cel (w1 100 11) (w1 100 12) (w1 109 0) := by rw [e100, eo]; exact hx
  have hp1 := hp.same hS (by decide)
  change WP SH _ _ _ _ ((some (vI (sWay (w 100 11) (w 100 12) (w 100 10) (w 107) (fun i => w 109 (3 + i)) (w 108) (w 109 0) (w 109 1)))).toList ++ _) _ _
  dsimp only [Option.toList, List.cons_append, List.nil_append, List.append_nil]
  refine wp_istore_n (pc' := 11) rfl rfl (Nat.le_of_ble_eq_true rfl) rfl ?_
  dsimp only [lset, lset2, List.set, List.getElem?_cons_zero, List.getElem?_cons_succ]
  refine wp_aload_n (pc' := 12) rfl rfl rfl (by decide) ?_
  refine wp_iconst (a := 0) (pc' := 13) rfl rfl rfl ?_
  refine wp_aload_n (pc' := 14) rfl rfl rfl (by decide) ?_
  refine wp_aload_n (pc' := 15) rfl rfl rfl (by decide) ?_
  refine wp_iconst (a := 0) (pc' := 16) rfl rfl rfl ?_
  refine wp_iaload (pc' := 17) rfl rfl (by first | assumption | rfl) (by omega) ?_
  refine wp_iload_n (pc' := 18) rfl rfl rfl ?_
  refine wp_call (pc' := 21) rfl rfl rfl rfl rfl ⟨Nat.le_of_ble_eq_true rfl, Nat.le_of_ble_eq_true rfl, Nat.le_of_ble_eq_true rfl, Nat.le_of_ble_eq_true rfl, Nat.le_of_ble_eq_true rfl⟩ rfl (c_Mod_beside hp1.1 ⟨hwy.1, hwy.2.1⟩ hx1) ?_
  intro v1 w2 hq1
  rw [hq1.1, hq1.2]
  clear hq1 v1 w2
  rw [e100, eo]
  dsimp only [Option.toList, List.cons_append, List.nil_append, List.append_nil]
  refine wp_iastore (pc' := 22) rfl rfl (by first | assumption | rfl) (by omega) ?_
  refine wp_aload_n (pc' := 23) rfl rfl rfl (by decide) ?_
  refine wp_iconst (a := 1) (pc' := 24) rfl rfl rfl ?_
  refine wp_iload_n (pc' := 25) rfl rfl rfl ?_
  refine wp_call (pc' := 28) rfl rfl rfl rfl rfl ⟨Nat.le_of_ble_eq_true rfl, Nat.le_of_ble_eq_true rfl, Nat.le_of_ble_eq_true rfl, Nat.le_of_ble_eq_true rfl, Nat.le_of_ble_eq_true rfl⟩ rfl (c_Mod_against ⟨hwy.1, hwy.2.1⟩) ?_
  intro v1 w2 hq1
  rw [hq1.1, hq1.2]
  clear hq1 v1 w2
  dsimp only [Option.toList, List.cons_append, List.nil_append, List.append_nil]
  refine wp_iastore (pc' := 29) rfl rfl (by first | assumption | rfl) (by omega) ?_
  refine wp_aload_n (pc' := 30) rfl rfl rfl (by decide) ?_
  refine wp_iconst (a := 2) (pc' := 31) rfl rfl rfl ?_
  refine wp_dup2 (pc' := 32) rfl rfl ?_
  refine wp_iaload (pc' := 33) rfl rfl (by first | assumption | rfl) (by omega) ?_
  refine wp_iconst (a := 1) (pc' := 34) rfl rfl rfl ?_
  refine wp_iadd (pc' := 35) rfl rfl (by first | exact w32_id (by omega) (by omega) | rfl) ?_
  refine wp_iastore (pc' := 36) rfl rfl (by first | assumption | rfl) (by omega) ?_
  refine wp_ret rfl rfl rfl ?_
  exact ⟨rfl, (((hS.F _).put (Or.inr (by decide))).put (Or.inr (by decide))).put (Or.inr (by decide)), by rw [up_at (by decide), up_at (by decide), up_eq], by rw [up_at (by decide), up_eq], by rw [up_eq, up_at (by decide), up_at (by decide), eo, w32_id (by omega) (by omega)]⟩
set_option maxRecDepth 20000 in
set_option maxHeartbeats 4000000 in
theorem c_Mod_passes_tried {w : Hp} {d : Nat} (hT : Stc w) (hp : MdOK w) (hx : Cel (w 100 11) (w 100 12) (w 110 0)) (hy : 0 ≤ w 110 2 ∧ w 110 2 ≤ 1000000) : WP SH (d + 7) 182 0 [some (vR 100), some (vR 110), none] [] w (fun v w' => v = none ∧ SameF w w' [113] [(110, 0), (110, 1), (110, 2)] ∧ w' 110 0 = sBeside (w 100 11) (w 100 12) (w 110 0) (sWay (w 100 11) (w 100 12) (w 100 10) (w 107) (fun i => w 109 (3 + i)) (w 108) (w 110 0) (w 110 1)) ∧ w' 110 1 = sAgainst (sWay (w 100 11) (w 100 12) (w 100 10) (w 107) (fun i => w 109 (3 + i)) (w 108) (w 110 0) (w 110 1)) ∧ w' 110 2 = w 110 2 + 1) := by
  have hwy := @sWay_ok _ _ (w 100 10) (w 110 0) (w 110 1) (w 107) (fun i => w 109 (3 + i)) (w 108) hp.1 hx (fun j a b => (hp.2.2 j a b).2.2)
  refine wp_aload_n (pc' := 1) rfl rfl rfl (by decide) ?_
  refine wp_aload_n (pc' := 2) rfl rfl rfl (by decide) ?_
  refine wp_iconst (a := 0) (pc' := 3) rfl rfl rfl ?_
  refine wp_iaload (pc' := 4) rfl rfl (by first | assumption | rfl) (by omega) ?_
  refine wp_aload_n (pc' := 5) rfl rfl rfl (by decide) ?_
  refine wp_iconst (a := 1) (pc' := 6) rfl rfl rfl ?_
  refine wp_iaload (pc' := 7) rfl rfl (by first | assumption | rfl) (by omega) ?_
  refine wp_call (pc' := 10) rfl rfl rfl rfl rfl ⟨Nat.le_of_ble_eq_true rfl, Nat.le_of_ble_eq_true rfl, Nat.le_of_ble_eq_true rfl, Nat.le_of_ble_eq_true rfl, Nat.le_of_ble_eq_true rfl⟩ rfl (c_Mod_carriedFrom hT hp hx) ?_
  rintro v1 w1 ⟨hv1, hS, hz1⟩
  rw [hv1]
  clear hv1 v1
  have eo : w1 110 = w 110 := hS 110 (by decide)
  have e100 : w1 100 = w 100 := hS 100 (by decide)
  have hx1 : Cel (w1 100 11) (w1 100 12) (w1 110 0) := by rw [e100, eo]; exact hx
  have hp1 := hp.same hS (by decide)
  change WP SH _ _ _ _ ((some (vI (sWay (w 100 11) (w 100 12) (w 100 10) (w 107) (fun i => w 109 (3 + i)) (w 108) (w 110 0) (w 110 1)))).toList ++ _) _ _
  dsimp only [Option.toList, List.cons_append, List.nil_append, List.append_nil]
  refine wp_istore_n (pc' := 11) rfl rfl (Nat.le_of_ble_eq_true rfl) rfl ?_
  dsimp only [lset, lset2, List.set, List.getElem?_cons_zero, List.getElem?_cons_succ]
  refine wp_aload_n (pc' := 12) rfl rfl rfl (by decide) ?_
  refine wp_iconst (a := 0) (pc' := 13) rfl rfl rfl ?_
  refine wp_aload_n (pc' := 14) rfl rfl rfl (by decide) ?_
  refine wp_aload_n (pc' := 15) rfl rfl rfl (by decide) ?_
  refine wp_iconst (a := 0) (pc' := 16) rfl rfl rfl ?_
  refine wp_iaload (pc' := 17) rfl rfl (by first | assumption | rfl) (by omega) ?_
  refine wp_iload_n (pc' := 18) rfl rfl rfl ?_
  refine wp_call (pc' := 21) rfl rfl rfl rfl rfl ⟨Nat.le_of_ble_eq_true rfl, Nat.le_of_ble_eq_true rfl, Nat.le_of_ble_eq_true rfl, Nat.le_of_ble_eq_true rfl, Nat.le_of_ble_eq_true rfl⟩ rfl (c_Mod_beside hp1.1 ⟨hwy.1, hwy.2.1⟩ hx1) ?_
  intro v1 w2 hq1
  rw [hq1.1, hq1.2]
  clear hq1 v1 w2
  rw [e100, eo]
  dsimp only [Option.toList, List.cons_append, List.nil_append, List.append_nil]
  refine wp_iastore (pc' := 22) rfl rfl (by first | assumption | rfl) (by omega) ?_
  refine wp_aload_n (pc' := 23) rfl rfl rfl (by decide) ?_
  refine wp_iconst (a := 1) (pc' := 24) rfl rfl rfl ?_
  refine wp_iload_n (pc' := 25) rfl rfl rfl ?_
  refine wp_call (pc' := 28) rfl rfl rfl rfl rfl ⟨Nat.le_of_ble_eq_true rfl, Nat.le_of_ble_eq_true rfl, Nat.le_of_ble_eq_true rfl, Nat.le_of_ble_eq_true rfl, Nat.le_of_ble_eq_true rfl⟩ rfl (c_Mod_against ⟨hwy.1, hwy.2.1⟩) ?_
  intro v1 w2 hq1
  rw [hq1.1, hq1.2]
  clear hq1 v1 w2
  dsimp only [Option.toList, List.cons_append, List.nil_append, List.append_nil]
  refine wp_iastore (pc' := 29) rfl rfl (by first | assumption | rfl) (by omega) ?_
  refine wp_aload_n (pc' := 30) rfl rfl rfl (by decide) ?_
  refine wp_iconst (a := 2) (pc' := 31) rfl rfl rfl ?_
  refine wp_dup2 (pc' := 32) rfl rfl ?_
  refine wp_iaload (pc' := 33) rfl rfl (by first | assumption | rfl) (by omega) ?_
  refine wp_iconst (a := 1) (pc' := 34) rfl rfl rfl ?_
  refine wp_iadd (pc' := 35) rfl rfl (by first | exact w32_id (by omega) (by omega) | rfl) ?_
  refine wp_iastore (pc' := 36) rfl rfl (by first | assumption | rfl) (by omega) ?_
  refine wp_ret rfl rfl rfl ?_
  exact ⟨rfl, (((hS.F _).put (Or.inr (by decide))).put (Or.inr (by decide))).put (Or.inr (by decide)), by rw [up_at (by decide), up_at (by decide), up_eq], by rw [up_at (by decide), up_eq], by rw [up_eq, up_at (by decide), up_at (by decide), eo, w32_id (by omega) (by omega)]⟩
set_option maxRecDepth 20000 in
set_option maxHeartbeats 4000000 in
theorem l_copyNow {w : Hp} {d : Nat} (hT0 : Stc w) : ∀ (k : Nat) (i : Int) (w1 : Hp), 0 ≤ i → i + k = 9 → Same w w1 [110] → (∀ j : Int, 0 ≤ j → j < i → w1 110 j = w 109 j) → WP SH d 183 2 [some (vR 100), some (vI i)] [] w1 (fun v w' => v = none ∧ Same w w' [110] ∧ ∀ j : Int, 0 ≤ j → j < 9 → w' 110 j = w 109 j) := by
  intro k
  induction k with
  | zero =>
    intro i w1 hi0 hik hS hz
    have hT := hT0.same hS (by decide)
    have e9 : w1 109 i = w 109 i := by rw [hS 109 (by decide)]
    refine wp_iload_n (pc' := 3) rfl rfl rfl ?_
    refine wp_bipush (a := 9) (pc' := 5) rfl rfl rfl ?_
    refine wp_icmp_ge (pc' := 8) (pt := 26) rfl rfl rfl (fun q_1 => ?_) (fun q_1 => ?_)
    · skip
      refine wp_ret rfl rfl rfl ?_
      exact ⟨rfl, hS, fun j a b => hz j a (by omega)⟩
    · skip
      exfalso; omega
  | succ k ih =>
    intro i w1 hi0 hik hS hz
    have hT := hT0.same hS (by decide)
    have e9 : w1 109 i = w 109 i := by rw [hS 109 (by decide)]
    refine wp_iload_n (pc' := 3) rfl rfl rfl ?_
    refine wp_bipush (a := 9) (pc' := 5) rfl rfl rfl ?_
    refine wp_icmp_ge (pc' := 8) (pt := 26) rfl rfl rfl (fun q_1 => ?_) (fun q_1 => ?_)
    · skip
      exfalso; omega
    · skip
      refine wp_aload_n (pc' := 9) rfl rfl rfl (by decide) ?_
      refine wp_getR (r' := 110) (ci := 10) (k0 := 16) (pc' := 12) rfl rfl (by decide) (by first | assumption | rfl) (hT.get 108 rfl) ?_
      refine wp_iload_n (pc' := 13) rfl rfl rfl ?_
      refine wp_aload_n (pc' := 14) rfl rfl rfl (by decide) ?_
      refine wp_getR (r' := 109) (ci := 10) (k0 := 15) (pc' := 17) rfl rfl (by decide) (by first | assumption | rfl) (hT.get 107 rfl) ?_
      refine wp_iload_n (pc' := 18) rfl rfl rfl ?_
      refine wp_iaload (pc' := 19) rfl rfl (by first | assumption | rfl) (by omega) ?_
      refine wp_iastore (pc' := 20) rfl rfl (by first | assumption | rfl) (by omega) ?_
      refine wp_iinc (pc' := 23) rfl rfl rfl (inc_id (by omega) (by omega)) rfl ?_
      dsimp only [lset, lset2, List.set, List.getElem?_cons_zero, List.getElem?_cons_succ]
      refine wp_goto (pc' := 2) rfl rfl ?_
      refine ih _ _ (by omega) (by omega) (hS.put (by decide)) (fun j a b => ?_)
      by_cases hj : j = i
      · rw [hj, up_eq, e9]
      · rw [up_at hj]; exact hz j a (by omega)
set_option maxRecDepth 20000 in
set_option maxHeartbeats 4000000 in
theorem c_Mod_copyNow {w : Hp} {d : Nat} (hT0 : Stc w) : WP SH (d + 0) 183 0 [some (vR 100), none] [] w (fun v w' => v = none ∧ Same w w' [110] ∧ ∀ j : Int, 0 ≤ j → j < 9 → w' 110 j = w 109 j) := by
  refine wp_iconst (a := 0) (pc' := 1) rfl rfl rfl ?_
  refine wp_istore_n (pc' := 2) rfl rfl (Nat.le_of_ble_eq_true rfl) rfl ?_
  dsimp only [lset, lset2, List.set, List.getElem?_cons_zero, List.getElem?_cons_succ]
  exact l_copyNow hT0 9 0 w (by omega) (by omega) (Same.rf _ _) (fun j a b => by omega)
