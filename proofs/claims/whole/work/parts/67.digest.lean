/-! digest, the class's side -/
def mx (h x : Int) : Int := w64 (w64 (31 * h) + x)
def seqN (g : Nat → Int → Int) (h : Int) : Nat → Int
  | 0 => h
  | m + 1 => g m (seqN g h m)
theorem seqN_congr {g g' : Nat → Int → Int} {h : Int} : ∀ {n : Nat}, (∀ m : Nat, m < n → ∀ x : Int, g m x = g' m x) → seqN g h n = seqN g' h n := by
  intro n
  induction n with
  | zero => intro _; rfl
  | succ n ih =>
    intro H
    unfold seqN
    rw [ih (fun m hm => H m (by omega)), H n (by omega)]
def mixF (f : Int → Int) (h : Int) (n : Nat) : Int := seqN (fun m x => mx x (f m)) h n
theorem mixF_congr {f f' : Int → Int} {h : Int} {n : Nat} (H : ∀ j : Int, 0 ≤ j → j < n → f j = f' j) : mixF f h n = mixF f' h n := seqN_congr (fun m hm x => by rw [H m (by omega) (by omega)])
def sOne (w : Hp) (i what : Int) : Int := if what = 0 then (w 4 i) else if what = 1 then (w 5 i) else if what = 2 then (w 6 i) else if what = 3 then sG (w 3 0) (w 4 i) (w 5 i) (w 3 3) else sVote (w 3 0) (w 3 1) (w 4 i) (w 5 i) (w 3 3) (w 3 4)
def dgP (w : Hp) (h : Int) (n : Nat) : Int := seqN (fun m x => mixF (sOne w m) x 5) h n
def fKd (w : Hp) : Int → Int := fun k => if w (73 + 9 * k) 0 = 0 then -1 else w (73 + 9 * k) 6
def dgR (Z : Int → Int) (P : Int → Int → Int) (h : Int) (n : Nat) : Int := seqN (fun m x => mixF (P m) (mx x (Z m)) (Z m).toNat) h n
theorem dgR_congr {Z Z' : Int → Int} {P P' : Int → Int → Int} {h : Int} {n : Nat} (hZ : ∀ j : Int, 0 ≤ j → j < n → Z j = Z' j) (hP : ∀ j : Int, 0 ≤ j → j < n → ∀ i : Int, 0 ≤ i → i < Z' j → P j i = P' j i) : dgR Z P h n = dgR Z' P' h n := seqN_congr (fun m hm x => by
  rw [hZ m (by omega) (by omega)]
  exact mixF_congr (fun j a b => hP m (by omega) (by omega) j a (by omega)))
def dgX (w : Hp) : Int := dgR (fun t => w (65 + 2 * t) 1) (fun t => w (66 + 2 * t)) (dgR (fun r => w (53 + 2 * r) 1) (fun r => w (54 + 2 * r)) (mixF (fKd w) (dgP w (mixF (sCntX w) 17 11) (w 3 2).toNat) 3) 6) 4
set_option maxRecDepth 20000 in
set_option maxHeartbeats 4000000 in
theorem l_mixInto {w : Hp} {d : Nat} {s pa h h0 : Int} {n : Nat} (hst : StripAt w s pa n) (hz : -1 ≤ w s 1 ∧ w s 1 ≤ n) : ∀ (k m : Nat) (x y : Int), y = m → m + k = (w s 1).toNat → x = mixF (w pa) h m → WP SH d 74 15 [some (vR s), some (vL h0), none, some (vL x), none, some (vI y)] [] w (fun v w' => v = some (vL (mixF (w pa) h (w s 1).toNat)) ∧ w' = w) := by
  intro k
  induction k with
  | zero =>
    intro m x y hy hmk hx
    obtain ⟨hs7, hpn, hsp, hs0, hp0, hne, hnn⟩ := id hst
    refine wp_iload (pc' := 17) rfl rfl rfl ?_
    refine wp_aload_n (pc' := 18) rfl rfl rfl (by omega) ?_
    refine wp_getI (ci := 7) (k0 := 1) (pc' := 21) rfl rfl (by decide) (by first | assumption | rfl) ?_
    refine wp_icmp_ge (pc' := 24) (pt := 45) rfl rfl rfl (fun q_1 => ?_) (fun q_1 => ?_)
    · skip
      refine wp_lload_n (pc' := 46) rfl rfl rfl ?_
      refine wp_ret rfl rfl rfl ?_
      obtain rfl : m = (w s 1).toNat := by omega
      exact ⟨by rw [hx], rfl⟩
    · skip
      exfalso; omega
  | succ k ih =>
    intro m x y hy hmk hx
    obtain ⟨hs7, hpn, hsp, hs0, hp0, hne, hnn⟩ := id hst
    refine wp_iload (pc' := 17) rfl rfl rfl ?_
    refine wp_aload_n (pc' := 18) rfl rfl rfl (by omega) ?_
    refine wp_getI (ci := 7) (k0 := 1) (pc' := 21) rfl rfl (by decide) (by first | assumption | rfl) ?_
    refine wp_icmp_ge (pc' := 24) (pt := 45) rfl rfl rfl (fun q_1 => ?_) (fun q_1 => ?_)
    · skip
      exfalso; omega
    · skip
      refine wp_ldc2_w (a := 31) (pc' := 27) rfl rfl rfl ?_
      refine wp_lload_n (pc' := 28) rfl rfl rfl ?_
      refine wp_lmul (pc' := 29) rfl rfl (by first | exact w64_id (by omega) (by omega) | rfl) ?_
      refine wp_aload_n (pc' := 30) rfl rfl rfl (by omega) ?_
      refine wp_getR (r' := pa) (ci := 7) (k0 := 0) (pc' := 33) rfl rfl (by decide) (by first | assumption | rfl) (hsp) ?_
      refine wp_iload (pc' := 35) rfl rfl rfl ?_
      refine wp_iaload (pc' := 36) rfl rfl (by first | assumption | rfl) (by omega) ?_
      refine wp_i2l (pc' := 37) rfl rfl ?_
      refine wp_ladd (pc' := 38) rfl rfl (by first | exact w64_id (by omega) (by omega) | rfl) ?_
      refine wp_lstore_n (pc' := 39) rfl rfl (Nat.le_of_ble_eq_true rfl) rfl ?_
      dsimp only [lset, lset2, List.set, List.getElem?_cons_zero, List.getElem?_cons_succ]
      refine wp_iinc (pc' := 42) rfl rfl rfl (inc_id (by omega) (by omega)) rfl ?_
      dsimp only [lset, lset2, List.set, List.getElem?_cons_zero, List.getElem?_cons_succ]
      refine wp_goto (pc' := 15) rfl rfl ?_
      refine ih (m + 1) _ _ (by omega) (by omega) ?_
      subst hy
      rw [hx]
      rfl
set_option maxRecDepth 20000 in
set_option maxHeartbeats 4000000 in
theorem c_Strip_mixInto {w : Hp} {d : Nat} {s pa h : Int} {n : Nat} (hst : StripAt w s pa n) (hz : -1 ≤ w s 1 ∧ w s 1 ≤ n) : WP SH (d + 0) 74 0 [some (vR s), some (vL h), none, none, none, none] [] w (fun v w' => v = some (vL (mixF (w pa) (mx h (w s 1)) (w s 1).toNat)) ∧ w' = w) := by
  obtain ⟨hs7, hpn, hsp, hs0, hp0, hne, hnn⟩ := id hst
  refine wp_ldc2_w (a := 31) (pc' := 3) rfl rfl rfl ?_
  refine wp_lload_n (pc' := 4) rfl rfl rfl ?_
  refine wp_lmul (pc' := 5) rfl rfl (by first | exact w64_id (by omega) (by omega) | rfl) ?_
  refine wp_aload_n (pc' := 6) rfl rfl rfl (by omega) ?_
  refine wp_getI (ci := 7) (k0 := 1) (pc' := 9) rfl rfl (by decide) (by first | assumption | rfl) ?_
  refine wp_i2l (pc' := 10) rfl rfl ?_
  refine wp_ladd (pc' := 11) rfl rfl (by first | exact w64_id (by omega) (by omega) | rfl) ?_
  refine wp_lstore_n (pc' := 12) rfl rfl (Nat.le_of_ble_eq_true rfl) rfl ?_
  dsimp only [lset, lset2, List.set, List.getElem?_cons_zero, List.getElem?_cons_succ]
  refine wp_iconst (a := 0) (pc' := 13) rfl rfl rfl ?_
  refine wp_istore (pc' := 15) rfl rfl (Nat.le_of_ble_eq_true rfl) rfl ?_
  dsimp only [lset, lset2, List.set, List.getElem?_cons_zero, List.getElem?_cons_succ]
  exact l_mixInto hst hz (w s 1).toNat 0 _ _ rfl (by omega) rfl
set_option maxRecDepth 20000 in
set_option maxHeartbeats 4000000 in
theorem l_dg1 {w : Hp} {d : Nat} {h : Int} (hT : Stc w) (hr : ROw w) (hn25 : 0 ≤ w 3 0 * w 3 1 ∧ w 3 0 * w 3 1 ≤ 25) (hn : 0 ≤ w 3 2 ∧ w 3 2 ≤ 6) (hpre : w 3 2 ≠ 0 → Pre w) {Q : Option PV → Hp → Prop} (K : ∀ (y : Int) (x4 : Option PV), WP SH (d + 5) 122 31 [some (vR 0), some (vL (mixF (sCntX w) h (11))), none, some (vI y), x4] [] w Q) : ∀ (k m : Nat) (x y : Int) (x4 : Option PV), y = m → m + k = 11 → x = mixF (sCntX w) h m → WP SH (d + 5) 122 6 [some (vR 0), some (vL x), none, some (vI y), x4] [] w Q := by
  intro k
  induction k with
  | zero =>
    intro m x y x4 hy hmk hx
    refine wp_iload_n (pc' := 7) rfl rfl rfl ?_
    refine wp_bipush (a := 11) (pc' := 9) rfl rfl rfl ?_
    refine wp_icmp_ge (pc' := 12) (pt := 31) rfl rfl rfl (fun q_1 => ?_) (fun q_1 => ?_)
    · skip
      obtain rfl : m = 11 := by omega
      rw [hx]
      exact K _ _
    · skip
      exfalso; omega
  | succ k ih =>
    intro m x y x4 hy hmk hx
    refine wp_iload_n (pc' := 7) rfl rfl rfl ?_
    refine wp_bipush (a := 11) (pc' := 9) rfl rfl rfl ?_
    refine wp_icmp_ge (pc' := 12) (pt := 31) rfl rfl rfl (fun q_1 => ?_) (fun q_1 => ?_)
    · skip
      exfalso; omega
    · skip
      refine wp_ldc2_w (a := 31) (pc' := 15) rfl rfl rfl ?_
      refine wp_lload_n (pc' := 16) rfl rfl rfl ?_
      refine wp_lmul (pc' := 17) rfl rfl (by first | exact w64_id (by omega) (by omega) | rfl) ?_
      refine wp_aload_n (pc' := 18) rfl rfl rfl (by decide) ?_
      refine wp_iload_n (pc' := 19) rfl rfl rfl ?_
      refine wp_call (pc' := 22) rfl rfl rfl rfl rfl ⟨Nat.le_of_ble_eq_true rfl, Nat.le_of_ble_eq_true rfl, Nat.le_of_ble_eq_true rfl, Nat.le_of_ble_eq_true rfl, Nat.le_of_ble_eq_true rfl⟩ rfl (c_VH_count hT hr hn25 hn (fun j a b => ⟨((hpre (by omega)).1.2.2 j a b).1, ((hpre (by omega)).1.2.2 j a b).2.2⟩)) ?_
      intro v1 w9 hq1
      rw [hq1.1, hq1.2]
      clear hq1 v1 w9
      dsimp only [Option.toList, List.cons_append, List.nil_append, List.append_nil]
      refine wp_i2l (pc' := 23) rfl rfl ?_
      refine wp_ladd (pc' := 24) rfl rfl (by first | exact w64_id (by omega) (by omega) | rfl) ?_
      refine wp_lstore_n (pc' := 25) rfl rfl (Nat.le_of_ble_eq_true rfl) rfl ?_
      dsimp only [lset, lset2, List.set, List.getElem?_cons_zero, List.getElem?_cons_succ]
      refine wp_iinc (pc' := 28) rfl rfl rfl (inc_id (by omega) (by omega)) rfl ?_
      dsimp only [lset, lset2, List.set, List.getElem?_cons_zero, List.getElem?_cons_succ]
      refine wp_goto (pc' := 6) rfl rfl ?_
      refine ih (m + 1) _ _ _ (by omega) (by omega) ?_
      subst hy
      rw [hx]
      rfl
set_option maxRecDepth 20000 in
set_option maxHeartbeats 4000000 in
theorem l_dg2i {w : Hp} {d : Nat} {h i : Int} (hT : Stc w) (hr : ROw w) (hn25 : 0 ≤ w 3 0 * w 3 1 ∧ w 3 0 * w 3 1 ≤ 25) (hn : 0 ≤ w 3 2 ∧ w 3 2 ≤ 6) (hpre : w 3 2 ≠ 0 → Pre w) (hi : 0 ≤ i ∧ i < w 3 2) {Q : Option PV → Hp → Prop} (K : ∀ (y : Int), WP SH (d + 5) 122 74 [some (vR 0), some (vL (mixF (sOne w i) h 5)), none, some (vI i), some (vI y)] [] w Q) : ∀ (k m : Nat) (x y : Int), y = m → m + k = 5 → x = mixF (sOne w i) h m → WP SH (d + 5) 122 47 [some (vR 0), some (vL x), none, some (vI i), some (vI y)] [] w Q := by
  intro k
  induction k with
  | zero =>
    intro m x y hy hmk hx
    refine wp_iload (pc' := 49) rfl rfl rfl ?_
    refine wp_iconst (a := 4) (pc' := 50) rfl rfl rfl ?_
    refine wp_icmp_gt (pc' := 53) (pt := 74) rfl rfl rfl (fun q_1 => ?_) (fun q_1 => ?_)
    · skip
      obtain rfl : m = 5 := by omega
      rw [hx]
      exact K _
    · skip
      exfalso; omega
  | succ k ih =>
    intro m x y hy hmk hx
    refine wp_iload (pc' := 49) rfl rfl rfl ?_
    refine wp_iconst (a := 4) (pc' := 50) rfl rfl rfl ?_
    refine wp_icmp_gt (pc' := 53) (pt := 74) rfl rfl rfl (fun q_1 => ?_) (fun q_1 => ?_)
    · skip
      exfalso; omega
    · skip
      refine wp_ldc2_w (a := 31) (pc' := 56) rfl rfl rfl ?_
      refine wp_lload_n (pc' := 57) rfl rfl rfl ?_
      refine wp_lmul (pc' := 58) rfl rfl (by first | exact w64_id (by omega) (by omega) | rfl) ?_
      refine wp_aload_n (pc' := 59) rfl rfl rfl (by decide) ?_
      refine wp_iload_n (pc' := 60) rfl rfl rfl ?_
      refine wp_iload (pc' := 62) rfl rfl rfl ?_
      refine wp_call (pc' := 65) rfl rfl rfl rfl rfl ⟨Nat.le_of_ble_eq_true rfl, Nat.le_of_ble_eq_true rfl, Nat.le_of_ble_eq_true rfl, Nat.le_of_ble_eq_true rfl, Nat.le_of_ble_eq_true rfl⟩ rfl (c_VH_aboutOne hT hr (hpre (by omega)) hi) ?_
      intro v1 w9 hq1
      rw [hq1.1, hq1.2]
      clear hq1 v1 w9
      dsimp only [Option.toList, List.cons_append, List.nil_append, List.append_nil]
      refine wp_i2l (pc' := 66) rfl rfl ?_
      refine wp_ladd (pc' := 67) rfl rfl (by first | exact w64_id (by omega) (by omega) | rfl) ?_
      refine wp_lstore_n (pc' := 68) rfl rfl (Nat.le_of_ble_eq_true rfl) rfl ?_
      dsimp only [lset, lset2, List.set, List.getElem?_cons_zero, List.getElem?_cons_succ]
      refine wp_iinc (pc' := 71) rfl rfl rfl (inc_id (by omega) (by omega)) rfl ?_
      dsimp only [lset, lset2, List.set, List.getElem?_cons_zero, List.getElem?_cons_succ]
      refine wp_goto (pc' := 47) rfl rfl ?_
      refine ih (m + 1) _ _ (by omega) (by omega) ?_
      subst hy
      rw [hx]
      rfl
set_option maxRecDepth 20000 in
set_option maxHeartbeats 4000000 in
theorem l_dg2 {w : Hp} {d : Nat} {h : Int} (hT : Stc w) (hr : ROw w) (hn25 : 0 ≤ w 3 0 * w 3 1 ∧ w 3 0 * w 3 1 ≤ 25) (hn : 0 ≤ w 3 2 ∧ w 3 2 ≤ 6) (hpre : w 3 2 ≠ 0 → Pre w) {Q : Option PV → Hp → Prop} (K : ∀ (y : Int) (x4 : Option PV), WP SH (d + 5) 122 80 [some (vR 0), some (vL (dgP w h ((w 3 2).toNat))), none, some (vI y), x4] [] w Q) : ∀ (k m : Nat) (x y : Int) (x4 : Option PV), y = m → m + k = (w 3 2).toNat → x = dgP w h m → WP SH (d + 5) 122 33 [some (vR 0), some (vL x), none, some (vI y), x4] [] w Q := by
  intro k
  induction k with
  | zero =>
    intro m x y x4 hy hmk hx
    refine wp_iload_n (pc' := 34) rfl rfl rfl ?_
    refine wp_aload_n (pc' := 35) rfl rfl rfl (by decide) ?_
    refine wp_getR (r' := 3) (ci := 9) (k0 := 2) (pc' := 38) rfl rfl (by decide) (by first | assumption | rfl) (hT.get 2 rfl) ?_
    refine wp_getI (ci := 3) (k0 := 2) (pc' := 41) rfl rfl (by decide) (by first | assumption | rfl) ?_
    refine wp_icmp_ge (pc' := 44) (pt := 80) rfl rfl rfl (fun q_1 => ?_) (fun q_1 => ?_)
    · skip
      obtain rfl : m = (w 3 2).toNat := by omega
      rw [hx]
      exact K _ _
    · skip
      exfalso; omega
  | succ k ih =>
    intro m x y x4 hy hmk hx
    refine wp_iload_n (pc' := 34) rfl rfl rfl ?_
    refine wp_aload_n (pc' := 35) rfl rfl rfl (by decide) ?_
    refine wp_getR (r' := 3) (ci := 9) (k0 := 2) (pc' := 38) rfl rfl (by decide) (by first | assumption | rfl) (hT.get 2 rfl) ?_
    refine wp_getI (ci := 3) (k0 := 2) (pc' := 41) rfl rfl (by decide) (by first | assumption | rfl) ?_
    refine wp_icmp_ge (pc' := 44) (pt := 80) rfl rfl rfl (fun q_1 => ?_) (fun q_1 => ?_)
    · skip
      exfalso; omega
    · skip
      refine wp_iconst (a := 0) (pc' := 45) rfl rfl rfl ?_
      refine wp_istore (pc' := 47) rfl rfl (Nat.le_of_ble_eq_true rfl) rfl ?_
      dsimp only [lset, lset2, List.set, List.getElem?_cons_zero, List.getElem?_cons_succ]
      refine l_dg2i hT hr hn25 hn hpre (by omega) (fun y9 => ?_) 5 0 _ _ rfl rfl rfl
      refine wp_iinc (pc' := 77) rfl rfl rfl (inc_id (by omega) (by omega)) rfl ?_
      dsimp only [lset, lset2, List.set, List.getElem?_cons_zero, List.getElem?_cons_succ]
      refine wp_goto (pc' := 33) rfl rfl ?_
      refine ih (m + 1) _ _ _ (by omega) (by omega) ?_
      subst hy
      rw [hx]
      rfl
set_option maxRecDepth 20000 in
set_option maxHeartbeats 4000000 in
theorem l_dg3 {w : Hp} {d : Nat} {h : Int} (hT : Stc w) {Q : Option PV → Hp → Prop} (K : ∀ (y : Int) (x4 : Option PV), WP SH (d + 1) 122 126 [some (vR 0), some (vL (mixF (fKd w) h (3))), none, some (vI y), x4] [] w Q) : ∀ (k m : Nat) (x y : Int) (x4 : Option PV), y = m → m + k = 3 → x = mixF (fKd w) h m → WP SH (d + 1) 122 82 [some (vR 0), some (vL x), none, some (vI y), x4] [] w Q := by
  intro k
  induction k with
  | zero =>
    intro m x y x4 hy hmk hx
    have hko : m < 3 → LandAt w (73 + 9 * (m : Int)) ∧ w 21 (m : Int) = 73 + 9 * (m : Int) := fun hm3 => land_kept hT (by omega) (by omega)
    have hks : m < 3 → shAt SH (73 + 9 * (m : Int)) = some (0, 3) := fun hm3 => (hko hm3).1.1.2
    subst hy
    refine wp_iload_n (pc' := 83) rfl rfl rfl ?_
    refine wp_iconst (a := 3) (pc' := 84) rfl rfl rfl ?_
    refine wp_icmp_ge (pc' := 87) (pt := 126) rfl rfl rfl (fun q_1 => ?_) (fun q_1 => ?_)
    · skip
      obtain rfl : m = 3 := by omega
      rw [hx]
      exact K _ _
    · skip
      exfalso; omega
  | succ k ih =>
    intro m x y x4 hy hmk hx
    have hko : m < 3 → LandAt w (73 + 9 * (m : Int)) ∧ w 21 (m : Int) = 73 + 9 * (m : Int) := fun hm3 => land_kept hT (by omega) (by omega)
    have hks : m < 3 → shAt SH (73 + 9 * (m : Int)) = some (0, 3) := fun hm3 => (hko hm3).1.1.2
    subst hy
    refine wp_iload_n (pc' := 83) rfl rfl rfl ?_
    refine wp_iconst (a := 3) (pc' := 84) rfl rfl rfl ?_
    refine wp_icmp_ge (pc' := 87) (pt := 126) rfl rfl rfl (fun q_1 => ?_) (fun q_1 => ?_)
    · skip
      exfalso; omega
    · skip
      have hks2 := hks (by omega)
      refine wp_ldc2_w (a := 31) (pc' := 90) rfl rfl rfl ?_
      refine wp_lload_n (pc' := 91) rfl rfl rfl ?_
      refine wp_lmul (pc' := 92) rfl rfl (by first | exact w64_id (by omega) (by omega) | rfl) ?_
      refine wp_aload_n (pc' := 93) rfl rfl rfl (by decide) ?_
      refine wp_getR (r' := 21) (ci := 9) (k0 := 4) (pc' := 96) rfl rfl (by decide) (by first | assumption | rfl) (hT.get 4 rfl) ?_
      refine wp_iload_n (pc' := 97) rfl rfl rfl ?_
      refine wp_aaload (r' := 73 + 9 * (m : Int)) (pc' := 98) rfl rfl (by first | assumption | rfl) rfl (by omega) ((hko (by omega)).2) ?_
      refine wp_call (pc' := 101) rfl rfl rfl rfl rfl ⟨Nat.le_of_ble_eq_true rfl, Nat.le_of_ble_eq_true rfl, Nat.le_of_ble_eq_true rfl, Nat.le_of_ble_eq_true rfl, Nat.le_of_ble_eq_true rfl⟩ (by have hi7 : m = 0 ∨ m = 1 ∨ m = 2 := (by omega); rcases hi7 with rfl | rfl | rfl <;> rfl) (c_Land_isEmpty_s (hko (by omega)).1) ?_
      rintro v1 w9 ⟨hw9, ⟨hv1, hem⟩ | ⟨hv1, hem⟩⟩
      · skip
        rw [hv1, hw9]
        clear hv1 hw9 v1 w9
        dsimp only [Option.toList, List.cons_append, List.nil_append, List.append_nil]
        refine wp_if_eq (pc' := 104) (pt := 108) rfl rfl rfl (fun q_2 => absurd q_2 (by decide)) (fun q_2 => ?_)
        refine wp_iconst (a := -1) (pc' := 105) rfl rfl rfl ?_
        refine wp_goto (pc' := 117) rfl rfl ?_
        refine wp_i2l (pc' := 118) rfl rfl ?_
        refine wp_ladd (pc' := 119) rfl rfl (by first | exact w64_id (by omega) (by omega) | rfl) ?_
        refine wp_lstore_n (pc' := 120) rfl rfl (Nat.le_of_ble_eq_true rfl) rfl ?_
        dsimp only [lset, lset2, List.set, List.getElem?_cons_zero, List.getElem?_cons_succ]
        refine wp_iinc (pc' := 123) rfl rfl rfl (inc_id (by omega) (by omega)) rfl ?_
        dsimp only [lset, lset2, List.set, List.getElem?_cons_zero, List.getElem?_cons_succ]
        refine wp_goto (pc' := 82) rfl rfl ?_
        refine ih (m + 1) _ _ _ (by omega) (by omega) ?_
        rw [hx]
        show _ = mx _ (fKd w m)
        unfold fKd
        first
        | (rw [if_pos (by assumption)]; rfl)
        | (rw [if_neg (by assumption)]; rfl)
      · skip
        rw [hv1, hw9]
        clear hv1 hw9 v1 w9
        dsimp only [Option.toList, List.cons_append, List.nil_append, List.append_nil]
        refine wp_if_eq (pc' := 104) (pt := 108) rfl rfl rfl (fun q_3 => ?_) (fun q_3 => absurd (by decide) q_3)
        refine wp_aload_n (pc' := 109) rfl rfl rfl (by decide) ?_
        refine wp_getR (r' := 21) (ci := 9) (k0 := 4) (pc' := 112) rfl rfl (by decide) (by first | assumption | rfl) (hT.get 4 rfl) ?_
        refine wp_iload_n (pc' := 113) rfl rfl rfl ?_
        refine wp_aaload (r' := 73 + 9 * (m : Int)) (pc' := 114) rfl rfl (by first | assumption | rfl) rfl (by omega) ((hko (by omega)).2) ?_
        refine wp_getI (ci := 3) (k0 := 6) (pc' := 117) rfl rfl (by decide) (by first | assumption | rfl) ?_
        refine wp_i2l (pc' := 118) rfl rfl ?_
        refine wp_ladd (pc' := 119) rfl rfl (by first | exact w64_id (by omega) (by omega) | rfl) ?_
        refine wp_lstore_n (pc' := 120) rfl rfl (Nat.le_of_ble_eq_true rfl) rfl ?_
        dsimp only [lset, lset2, List.set, List.getElem?_cons_zero, List.getElem?_cons_succ]
        refine wp_iinc (pc' := 123) rfl rfl rfl (inc_id (by omega) (by omega)) rfl ?_
        dsimp only [lset, lset2, List.set, List.getElem?_cons_zero, List.getElem?_cons_succ]
        refine wp_goto (pc' := 82) rfl rfl ?_
        refine ih (m + 1) _ _ _ (by omega) (by omega) ?_
        rw [hx]
        show _ = mx _ (fKd w m)
        unfold fKd
        first
        | (rw [if_pos (by assumption)]; rfl)
        | (rw [if_neg (by assumption)]; rfl)
set_option maxRecDepth 20000 in
set_option maxHeartbeats 4000000 in
theorem l_dg4 {w : Hp} {d : Nat} {h : Int} (hT : Stc w) (hz : ∀ r : Int, 0 ≤ r → r < 6 → -1 ≤ w (53 + 2 * r) 1 ∧ w (53 + 2 * r) 1 ≤ 40) {Q : Option PV → Hp → Prop} (K : ∀ (y : Int) (x4 : Option PV), WP SH (d + 1) 122 151 [some (vR 0), some (vL (dgR (fun r => w (53 + 2 * r) 1) (fun r => w (54 + 2 * r)) h (6))), none, some (vI y), x4] [] w Q) : ∀ (k m : Nat) (x y : Int) (x4 : Option PV), y = m → m + k = 6 → x = dgR (fun r => w (53 + 2 * r) 1) (fun r => w (54 + 2 * r)) h m → WP SH (d + 1) 122 128 [some (vR 0), some (vL x), none, some (vI y), x4] [] w Q := by
  intro k
  induction k with
  | zero =>
    intro m x y x4 hy hmk hx
    subst hy
    refine wp_iload_n (pc' := 129) rfl rfl rfl ?_
    refine wp_bipush (a := 6) (pc' := 131) rfl rfl rfl ?_
    refine wp_icmp_ge (pc' := 134) (pt := 151) rfl rfl rfl (fun q_1 => ?_) (fun q_1 => ?_)
    · skip
      obtain rfl : m = 6 := by omega
      rw [hx]
      exact K _ _
    · skip
      exfalso; omega
  | succ k ih =>
    intro m x y x4 hy hmk hx
    subst hy
    refine wp_iload_n (pc' := 129) rfl rfl rfl ?_
    refine wp_bipush (a := 6) (pc' := 131) rfl rfl rfl ?_
    refine wp_icmp_ge (pc' := 134) (pt := 151) rfl rfl rfl (fun q_1 => ?_) (fun q_1 => ?_)
    · skip
      exfalso; omega
    · skip
      refine wp_aload_n (pc' := 135) rfl rfl rfl (by decide) ?_
      refine wp_getR (r' := 1) (ci := 9) (k0 := 0) (pc' := 138) rfl rfl (by decide) (by first | assumption | rfl) (hT.get 0 rfl) ?_
      refine wp_iload_n (pc' := 139) rfl rfl rfl ?_
      refine wp_aaload (r' := 53 + 2 * (m : Int)) (pc' := 140) rfl rfl (by first | assumption | rfl) rfl (by omega) ((strip_row hT (r := (m : Int)) (by omega) (by omega)).2) ?_
      refine wp_lload_n (pc' := 141) rfl rfl rfl ?_
      refine wp_call (pc' := 144) rfl rfl rfl rfl rfl ⟨Nat.le_of_ble_eq_true rfl, Nat.le_of_ble_eq_true rfl, Nat.le_of_ble_eq_true rfl, Nat.le_of_ble_eq_true rfl, Nat.le_of_ble_eq_true rfl⟩ (by have hi7 : m = 0 ∨ m = 1 ∨ m = 2 ∨ m = 3 ∨ m = 4 ∨ m = 5 := (by omega); rcases hi7 with rfl | rfl | rfl | rfl | rfl | rfl <;> rfl) (c_Strip_mixInto (strip_row hT (r := (m : Int)) (by omega) (by omega)).1 (hz m (by omega) (by omega))) ?_
      intro v1 w9 hq1
      rw [hq1.1, hq1.2]
      clear hq1 v1 w9
      dsimp only [Option.toList, List.cons_append, List.nil_append, List.append_nil]
      refine wp_lstore_n (pc' := 145) rfl rfl (Nat.le_of_ble_eq_true rfl) rfl ?_
      dsimp only [lset, lset2, List.set, List.getElem?_cons_zero, List.getElem?_cons_succ]
      refine wp_iinc (pc' := 148) rfl rfl rfl (inc_id (by omega) (by omega)) rfl ?_
      dsimp only [lset, lset2, List.set, List.getElem?_cons_zero, List.getElem?_cons_succ]
      refine wp_goto (pc' := 128) rfl rfl ?_
      refine ih (m + 1) _ _ _ (by omega) (by omega) ?_
      rw [hx]
      rfl
set_option maxRecDepth 20000 in
set_option maxHeartbeats 4000000 in
theorem l_dg5 {w : Hp} {d : Nat} {h : Int} (hT : Stc w) (hz : ∀ r : Int, 0 ≤ r → r < 4 → -1 ≤ w (65 + 2 * r) 1 ∧ w (65 + 2 * r) 1 ≤ 60) {Q : Option PV → Hp → Prop} (K : ∀ (y : Int) (x4 : Option PV), WP SH (d + 1) 122 175 [some (vR 0), some (vL (dgR (fun r => w (65 + 2 * r) 1) (fun r => w (66 + 2 * r)) h (4))), none, some (vI y), x4] [] w Q) : ∀ (k m : Nat) (x y : Int) (x4 : Option PV), y = m → m + k = 4 → x = dgR (fun r => w (65 + 2 * r) 1) (fun r => w (66 + 2 * r)) h m → WP SH (d + 1) 122 153 [some (vR 0), some (vL x), none, some (vI y), x4] [] w Q := by
  intro k
  induction k with
  | zero =>
    intro m x y x4 hy hmk hx
    subst hy
    refine wp_iload_n (pc' := 154) rfl rfl rfl ?_
    refine wp_iconst (a := 4) (pc' := 155) rfl rfl rfl ?_
    refine wp_icmp_ge (pc' := 158) (pt := 175) rfl rfl rfl (fun q_1 => ?_) (fun q_1 => ?_)
    · skip
      obtain rfl : m = 4 := by omega
      rw [hx]
      exact K _ _
    · skip
      exfalso; omega
  | succ k ih =>
    intro m x y x4 hy hmk hx
    subst hy
    refine wp_iload_n (pc' := 154) rfl rfl rfl ?_
    refine wp_iconst (a := 4) (pc' := 155) rfl rfl rfl ?_
    refine wp_icmp_ge (pc' := 158) (pt := 175) rfl rfl rfl (fun q_1 => ?_) (fun q_1 => ?_)
    · skip
      exfalso; omega
    · skip
      refine wp_aload_n (pc' := 159) rfl rfl rfl (by decide) ?_
      refine wp_getR (r' := 2) (ci := 9) (k0 := 1) (pc' := 162) rfl rfl (by decide) (by first | assumption | rfl) (hT.get 1 rfl) ?_
      refine wp_iload_n (pc' := 163) rfl rfl rfl ?_
      refine wp_aaload (r' := 65 + 2 * (m : Int)) (pc' := 164) rfl rfl (by first | assumption | rfl) rfl (by omega) ((strip_text hT (r := (m : Int)) (by omega) (by omega)).2) ?_
      refine wp_lload_n (pc' := 165) rfl rfl rfl ?_
      refine wp_call (pc' := 168) rfl rfl rfl rfl rfl ⟨Nat.le_of_ble_eq_true rfl, Nat.le_of_ble_eq_true rfl, Nat.le_of_ble_eq_true rfl, Nat.le_of_ble_eq_true rfl, Nat.le_of_ble_eq_true rfl⟩ (by have hi7 : m = 0 ∨ m = 1 ∨ m = 2 ∨ m = 3 := (by omega); rcases hi7 with rfl | rfl | rfl | rfl <;> rfl) (c_Strip_mixInto (strip_text hT (r := (m : Int)) (by omega) (by omega)).1 (hz m (by omega) (by omega))) ?_
      intro v1 w9 hq1
      rw [hq1.1, hq1.2]
      clear hq1 v1 w9
      dsimp only [Option.toList, List.cons_append, List.nil_append, List.append_nil]
      refine wp_lstore_n (pc' := 169) rfl rfl (Nat.le_of_ble_eq_true rfl) rfl ?_
      dsimp only [lset, lset2, List.set, List.getElem?_cons_zero, List.getElem?_cons_succ]
      refine wp_iinc (pc' := 172) rfl rfl rfl (inc_id (by omega) (by omega)) rfl ?_
      dsimp only [lset, lset2, List.set, List.getElem?_cons_zero, List.getElem?_cons_succ]
      refine wp_goto (pc' := 153) rfl rfl ?_
      refine ih (m + 1) _ _ _ (by omega) (by omega) ?_
      rw [hx]
      rfl
set_option maxRecDepth 20000 in
set_option maxHeartbeats 4000000 in
theorem c_VH_digest {w : Hp} {d : Nat} (hT : Stc w) (hr : ROw w) (hn25 : 0 ≤ w 3 0 * w 3 1 ∧ w 3 0 * w 3 1 ≤ 25) (hn : 0 ≤ w 3 2 ∧ w 3 2 ≤ 6) (hpre : w 3 2 ≠ 0 → Pre w) (hzr : ∀ r : Int, 0 ≤ r → r < 6 → -1 ≤ w (53 + 2 * r) 1 ∧ w (53 + 2 * r) 1 ≤ 40) (hzt : ∀ r : Int, 0 ≤ r → r < 4 → -1 ≤ w (65 + 2 * r) 1 ∧ w (65 + 2 * r) 1 ≤ 60) : WP SH (d + 5) 122 0 [some (vR 0), none, none, none, none] [] w (fun v w' => v = some (vL (dgX w)) ∧ w' = w) := by
  refine wp_ldc2_w (a := 17) (pc' := 3) rfl rfl rfl ?_
  refine wp_lstore_n (pc' := 4) rfl rfl (Nat.le_of_ble_eq_true rfl) rfl ?_
  dsimp only [lset, lset2, List.set, List.getElem?_cons_zero, List.getElem?_cons_succ]
  refine wp_iconst (a := 0) (pc' := 5) rfl rfl rfl ?_
  refine wp_istore_n (pc' := 6) rfl rfl (Nat.le_of_ble_eq_true rfl) rfl ?_
  dsimp only [lset, lset2, List.set, List.getElem?_cons_zero, List.getElem?_cons_succ]
  refine l_dg1 hT hr hn25 hn hpre (fun y9 x9 => ?_) 11 0 _ _ _ rfl rfl rfl
  refine wp_iconst (a := 0) (pc' := 32) rfl rfl rfl ?_
  refine wp_istore_n (pc' := 33) rfl rfl (Nat.le_of_ble_eq_true rfl) rfl ?_
  dsimp only [lset, lset2, List.set, List.getElem?_cons_zero, List.getElem?_cons_succ]
  refine l_dg2 hT hr hn25 hn hpre (fun y9 x9 => ?_) (w 3 2).toNat 0 _ _ _ rfl (by omega) rfl
  refine wp_iconst (a := 0) (pc' := 81) rfl rfl rfl ?_
  refine wp_istore_n (pc' := 82) rfl rfl (Nat.le_of_ble_eq_true rfl) rfl ?_
  dsimp only [lset, lset2, List.set, List.getElem?_cons_zero, List.getElem?_cons_succ]
  refine l_dg3 hT (fun y9 x9 => ?_) 3 0 _ _ _ rfl rfl rfl
  refine wp_iconst (a := 0) (pc' := 127) rfl rfl rfl ?_
  refine wp_istore_n (pc' := 128) rfl rfl (Nat.le_of_ble_eq_true rfl) rfl ?_
  dsimp only [lset, lset2, List.set, List.getElem?_cons_zero, List.getElem?_cons_succ]
  refine l_dg4 hT hzr (fun y9 x9 => ?_) 6 0 _ _ _ rfl rfl rfl
  refine wp_iconst (a := 0) (pc' := 152) rfl rfl rfl ?_
  refine wp_istore_n (pc' := 153) rfl rfl (Nat.le_of_ble_eq_true rfl) rfl ?_
  dsimp only [lset, lset2, List.set, List.getElem?_cons_zero, List.getElem?_cons_succ]
  refine l_dg5 hT hzt (fun y9 x9 => ?_) 4 0 _ _ _ rfl rfl rfl
  refine wp_lload_n (pc' := 176) rfl rfl rfl ?_
  refine wp_ret rfl rfl rfl ?_
  exact ⟨rfl, rfl⟩
