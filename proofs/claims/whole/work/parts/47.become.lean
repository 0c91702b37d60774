/-! a land becomes another: keep, on -/
def cpy (w : Hp) (s a o b n : Int) : Hp := fun r j => if r = o ∧ b ≤ j ∧ j < b + n then w s (a + (j - b)) else w r j
theorem cpy_ne {w : Hp} {s a o b n r : Int} (h : r ≠ o) : cpy w s a o b n r = w r := funext fun j => by unfold cpy; rw [if_neg (fun z => h z.1)]
theorem cpy_in {w : Hp} {s a o b n j : Int} (h : b ≤ j ∧ j < b + n) : cpy w s a o b n o j = w s (a + (j - b)) := by unfold cpy; rw [if_pos ⟨rfl, h⟩]
theorem cpy_out {w : Hp} {s a o b n j : Int} (h : ¬ (b ≤ j ∧ j < b + n)) : cpy w s a o b n o j = w o j := by unfold cpy; rw [if_neg (fun z => h z.2)]
theorem wp_cpy {sh : Shp} {d mi pc pc' pc0 len pos : Nat} {ls : PL} {st : List PV} {w : Hp} {Q : Option PV → Hp → Prop} {sr d0 n sp dp : Int} {n0 n1 i : Nat} (h : rowOf mi pc = some (pc0, .invokestatic i, len, -2, pos)) (hp : pc + len = pc') (hs : shAt sh sr = some (1, n0)) (hd : shAt sh d0 = some (1, n1)) (hc : 0 ≤ n ∧ 0 ≤ sp ∧ 0 ≤ dp ∧ sp + n ≤ n0 ∧ dp + n ≤ n1 ∧ st.length ≤ 4) (k : WP sh d mi pc' ls st (cpy w sr sp d0 dp n) Q) : WP sh d mi pc ls (vI n :: vI dp :: vR d0 :: vI sp :: vR sr :: st) w Q := wp_copy h hp hs hd hc k
def LandAt (w : Hp) (o : Int) : Prop := (0 ≤ o ∧ shAt SH o = some (0, 3)) ∧ (shAt SH (o + 1) = some (1, 6) ∧ shAt SH (o + 2) = some (1, 6) ∧ shAt SH (o + 3) = some (1, 6)) ∧ (shAt SH (o + 4) = some (1, 40) ∧ shAt SH (o + 5) = some (1, 40) ∧ shAt SH (o + 6) = some (1, 40) ∧ shAt SH (o + 7) = some (1, 40) ∧ shAt SH (o + 8) = some (1, 40)) ∧ (w o 7 = o + 1 ∧ w o 8 = o + 2 ∧ w o 9 = o + 3 ∧ w o 10 = o + 4 ∧ w o 11 = o + 5 ∧ w o 12 = o + 6 ∧ w o 13 = o + 7 ∧ w o 14 = o + 8)
theorem land_at3 {w : Hp} (hT : Stc w) : LandAt w 3 := ⟨⟨by decide, rfl⟩, ⟨rfl, rfl, rfl⟩, ⟨rfl, rfl, rfl, rfl, rfl⟩, hT.get 23 rfl, hT.get 24 rfl, hT.get 25 rfl, hT.get 26 rfl, hT.get 27 rfl, hT.get 28 rfl, hT.get 29 rfl, hT.get 30 rfl⟩
theorem land_at12 {w : Hp} (hT : Stc w) : LandAt w 12 := ⟨⟨by decide, rfl⟩, ⟨rfl, rfl, rfl⟩, ⟨rfl, rfl, rfl, rfl, rfl⟩, hT.get 31 rfl, hT.get 32 rfl, hT.get 33 rfl, hT.get 34 rfl, hT.get 35 rfl, hT.get 36 rfl, hT.get 37 rfl, hT.get 38 rfl⟩
theorem land_kept {w : Hp} (hT : Stc w) {k : Int} (h0 : 0 ≤ k) (h3 : k < 3) : LandAt w (73 + 9 * k) ∧ w 21 k = 73 + 9 * k := by
  have : k = 0 ∨ k = 1 ∨ k = 2 := by omega
  rcases this with rfl | rfl | rfl
  · exact ⟨⟨⟨by decide, rfl⟩, ⟨rfl, rfl, rfl⟩, ⟨rfl, rfl, rfl, rfl, rfl⟩, hT.get 75 rfl, hT.get 76 rfl, hT.get 77 rfl, hT.get 78 rfl, hT.get 79 rfl, hT.get 80 rfl, hT.get 81 rfl, hT.get 82 rfl⟩, hT.get 39 rfl⟩
  · exact ⟨⟨⟨by decide, rfl⟩, ⟨rfl, rfl, rfl⟩, ⟨rfl, rfl, rfl, rfl, rfl⟩, hT.get 83 rfl, hT.get 84 rfl, hT.get 85 rfl, hT.get 86 rfl, hT.get 87 rfl, hT.get 88 rfl, hT.get 89 rfl, hT.get 90 rfl⟩, hT.get 40 rfl⟩
  · exact ⟨⟨⟨by decide, rfl⟩, ⟨rfl, rfl, rfl⟩, ⟨rfl, rfl, rfl, rfl, rfl⟩, hT.get 91 rfl, hT.get 92 rfl, hT.get 93 rfl, hT.get 94 rfl, hT.get 95 rfl, hT.get 96 rfl, hT.get 97 rfl, hT.get 98 rfl⟩, hT.get 41 rfl⟩
/-- so far: k fields, q arrays -/
def BB (w w1 : Hp) (o s k q : Int) : Prop := (∀ r : Int, ¬ (o ≤ r ∧ r ≤ o + 8) → w1 r = w r) ∧ (∀ j : Int, j < 0 ∨ 7 ≤ j → w1 o j = w o j) ∧ (∀ j : Int, 0 ≤ j → j < k → w1 o j = w s j) ∧ (∀ z : Int, 1 ≤ z → z ≤ q → ∀ j : Int, 0 ≤ j → j < (if z ≤ 3 then w s 2 else w s 6) → w1 (o + z) j = w (s + z) j)
theorem BB.zero (w : Hp) (o s : Int) : BB w w o s 0 0 := ⟨fun _ _ => rfl, fun _ _ => rfl, fun j a b => absurd b (by omega), fun z a b => absurd b (by omega)⟩
theorem BB.fld {w w1 : Hp} {o s k : Int} (h : BB w w1 o s k 0) (hd : o + 8 < s ∨ s + 8 < o) (k0 : 0 ≤ k) (k7 : k < 7) : BB w (up w1 o k (w1 s k)) o s (k + 1) 0 := by
  obtain ⟨h1, h2, h3, h4⟩ := h
  refine ⟨fun r hr => by rw [up_ne (by omega)]; exact h1 r hr, fun j hj => by rw [up_at (by omega)]; exact h2 j hj, fun j j0 j1 => ?_, fun z a b => absurd b (by omega)⟩
  by_cases hj : j = k
  · rw [hj, up_eq, h1 s (by omega)]
  · rw [up_at hj]
    exact h3 j j0 (by omega)
theorem BB.arr {w w1 : Hp} {o s q n : Int} (h : BB w w1 o s 7 q) (hd : o + 8 < s ∨ s + 8 < o) (q0 : 0 ≤ q) (q8 : q < 8) (hn : n = if q + 1 ≤ 3 then w s 2 else w s 6) : BB w (cpy w1 (s + (q + 1)) 0 (o + (q + 1)) 0 n) o s 7 (q + 1) := by
  obtain ⟨h1, h2, h3, h4⟩ := h
  refine ⟨fun r hr => by rw [cpy_ne (by omega)]; exact h1 r hr, fun j hj => by rw [cpy_ne (by omega)]; exact h2 j hj, fun j j0 j1 => by rw [cpy_ne (by omega)]; exact h3 j j0 j1, fun z z1 z2 j j0 j1 => ?_⟩
  by_cases hz : z = q + 1
  · subst hz
    rw [cpy_in (by omega), h1 (s + (q + 1)) (by omega)]
    congr 1
    omega
  · rw [cpy_ne (by omega)]
    exact h4 z z1 (by omega) j j0 j1
theorem LandAt.bb {w w1 : Hp} {o s k q : Int} (h : LandAt w o) (hb : BB w w1 o s k q) : LandAt w1 o := by
  obtain ⟨h1, h2, h3, h4⟩ := h
  refine ⟨h1, h2, h3, ?_⟩
  rw [hb.2.1 7 (by omega), hb.2.1 8 (by omega), hb.2.1 9 (by omega), hb.2.1 10 (by omega), hb.2.1 11 (by omega), hb.2.1 12 (by omega), hb.2.1 13 (by omega), hb.2.1 14 (by omega)]
  exact h4
theorem LandAt.bs {w w1 : Hp} {o s k q : Int} (h : LandAt w s) (hb : BB w w1 o s k q) (hd : o + 8 < s ∨ s + 8 < o) : LandAt w1 s := by
  unfold LandAt at h ⊢
  rw [hb.1 s (by omega)]
  exact h
set_option maxRecDepth 20000 in
set_option maxHeartbeats 4000000 in
theorem c_Land_become {w : Hp} {d : Nat} {o s : Int} (ho : LandAt w o) (hs : LandAt w s) (hd : o + 8 < s ∨ s + 8 < o) (hn : 0 ≤ w s 2 ∧ w s 2 ≤ 6) (hm : 0 ≤ w s 6 ∧ w s 6 ≤ 40) : WP SH (d + 0) 24 0 [some (vR o), some (vR s)] [] w (fun v w' => v = none ∧ BB w w' o s 7 8) := by
  have hB := BB.zero w o s
  have ho0 := ho.1.1
  have hs0 := hs.1.1
  have hsho := ho.1.2
  have hshs := hs.1.2
  refine wp_aload_n (pc' := 1) rfl rfl rfl (by omega) ?_
  refine wp_aload_n (pc' := 2) rfl rfl rfl (by omega) ?_
  refine wp_getI (ci := 3) (k0 := 0) (pc' := 5) rfl rfl (by decide) (by first | assumption | rfl) ?_
  refine wp_putI (ci := 3) (k0 := 0) (pc' := 8) rfl rfl (by decide) (by first | assumption | rfl) ?_
  obtain ⟨u1, hu1⟩ : ∃ x, x = up w o 0 (w s 0) := ⟨_, rfl⟩
  rw [← hu1]
  have hB : BB w u1 o s 1 0 := by rw [hu1]; exact hB.fld hd (by decide) (by decide)
  refine wp_aload_n (pc' := 9) rfl rfl rfl (by omega) ?_
  refine wp_aload_n (pc' := 10) rfl rfl rfl (by omega) ?_
  refine wp_getI (ci := 3) (k0 := 1) (pc' := 13) rfl rfl (by decide) (by first | assumption | rfl) ?_
  refine wp_putI (ci := 3) (k0 := 1) (pc' := 16) rfl rfl (by decide) (by first | assumption | rfl) ?_
  obtain ⟨u2, hu2⟩ : ∃ x, x = up u1 o 1 (u1 s 1) := ⟨_, rfl⟩
  rw [← hu2]
  have hB : BB w u2 o s 2 0 := by rw [hu2]; exact hB.fld hd (by decide) (by decide)
  refine wp_aload_n (pc' := 17) rfl rfl rfl (by omega) ?_
  refine wp_aload_n (pc' := 18) rfl rfl rfl (by omega) ?_
  refine wp_getI (ci := 3) (k0 := 2) (pc' := 21) rfl rfl (by decide) (by first | assumption | rfl) ?_
  refine wp_putI (ci := 3) (k0 := 2) (pc' := 24) rfl rfl (by decide) (by first | assumption | rfl) ?_
  obtain ⟨u3, hu3⟩ : ∃ x, x = up u2 o 2 (u2 s 2) := ⟨_, rfl⟩
  rw [← hu3]
  have hB : BB w u3 o s 3 0 := by rw [hu3]; exact hB.fld hd (by decide) (by decide)
  refine wp_aload_n (pc' := 25) rfl rfl rfl (by omega) ?_
  refine wp_aload_n (pc' := 26) rfl rfl rfl (by omega) ?_
  refine wp_getI (ci := 3) (k0 := 3) (pc' := 29) rfl rfl (by decide) (by first | assumption | rfl) ?_
  refine wp_putI (ci := 3) (k0 := 3) (pc' := 32) rfl rfl (by decide) (by first | assumption | rfl) ?_
  obtain ⟨u4, hu4⟩ : ∃ x, x = up u3 o 3 (u3 s 3) := ⟨_, rfl⟩
  rw [← hu4]
  have hB : BB w u4 o s 4 0 := by rw [hu4]; exact hB.fld hd (by decide) (by decide)
  refine wp_aload_n (pc' := 33) rfl rfl rfl (by omega) ?_
  refine wp_aload_n (pc' := 34) rfl rfl rfl (by omega) ?_
  refine wp_getI (ci := 3) (k0 := 4) (pc' := 37) rfl rfl (by decide) (by first | assumption | rfl) ?_
  refine wp_putI (ci := 3) (k0 := 4) (pc' := 40) rfl rfl (by decide) (by first | assumption | rfl) ?_
  obtain ⟨u5, hu5⟩ : ∃ x, x = up u4 o 4 (u4 s 4) := ⟨_, rfl⟩
  rw [← hu5]
  have hB : BB w u5 o s 5 0 := by rw [hu5]; exact hB.fld hd (by decide) (by decide)
  refine wp_aload_n (pc' := 41) rfl rfl rfl (by omega) ?_
  refine wp_aload_n (pc' := 42) rfl rfl rfl (by omega) ?_
  refine wp_getI (ci := 3) (k0 := 5) (pc' := 45) rfl rfl (by decide) (by first | assumption | rfl) ?_
  refine wp_putI (ci := 3) (k0 := 5) (pc' := 48) rfl rfl (by decide) (by first | assumption | rfl) ?_
  obtain ⟨u6, hu6⟩ : ∃ x, x = up u5 o 5 (u5 s 5) := ⟨_, rfl⟩
  rw [← hu6]
  have hB : BB w u6 o s 6 0 := by rw [hu6]; exact hB.fld hd (by decide) (by decide)
  refine wp_aload_n (pc' := 49) rfl rfl rfl (by omega) ?_
  refine wp_aload_n (pc' := 50) rfl rfl rfl (by omega) ?_
  refine wp_getI (ci := 3) (k0 := 6) (pc' := 53) rfl rfl (by decide) (by first | assumption | rfl) ?_
  refine wp_putI (ci := 3) (k0 := 6) (pc' := 56) rfl rfl (by decide) (by first | assumption | rfl) ?_
  obtain ⟨u7, hu7⟩ : ∃ x, x = up u6 o 6 (u6 s 6) := ⟨_, rfl⟩
  rw [← hu7]
  have hB : BB w u7 o s 7 0 := by rw [hu7]; exact hB.fld hd (by decide) (by decide)
  have e2 : u7 o 2 = w s 2 := hB.2.2.1 2 (by decide) (by decide)
  have e6 : u7 o 6 = w s 6 := hB.2.2.1 6 (by decide) (by decide)
  have hO := ho.bb hB
  have hSs := hs.bs hB hd
  obtain ⟨-, ⟨qa1, qa2, qa3⟩, ⟨qa4, qa5, qa6, qa7, qa8⟩, -⟩ := id ho
  obtain ⟨-, ⟨qb1, qb2, qb3⟩, ⟨qb4, qb5, qb6, qb7, qb8⟩, -⟩ := id hs
  refine wp_aload_n (pc' := 57) rfl rfl rfl (by omega) ?_
  refine wp_getR (r' := s + 1) (ci := 3) (k0 := 7) (pc' := 60) rfl rfl (by decide) (by first | assumption | rfl) (hSs.2.2.2.1) ?_
  refine wp_iconst (a := 0) (pc' := 61) rfl rfl rfl ?_
  refine wp_aload_n (pc' := 62) rfl rfl rfl (by omega) ?_
  refine wp_getR (r' := o + 1) (ci := 3) (k0 := 7) (pc' := 65) rfl rfl (by decide) (by first | assumption | rfl) (hO.2.2.2.1) ?_
  refine wp_iconst (a := 0) (pc' := 66) rfl rfl rfl ?_
  refine wp_aload_n (pc' := 67) rfl rfl rfl (by omega) ?_
  refine wp_getI (ci := 3) (k0 := 2) (pc' := 70) rfl rfl (by decide) (by first | assumption | rfl) ?_
  refine wp_cpy (pc' := 73) rfl rfl (by first | assumption | rfl) (by first | assumption | rfl) (by refine ⟨?_, ?_, ?_, ?_, ?_, by decide⟩ <;> omega) ?_
  obtain ⟨u8, hu8⟩ : ∃ x, x = cpy u7 (s + 1) 0 (o + 1) 0 (u7 o 2) := ⟨_, rfl⟩
  rw [← hu8]
  have hB : BB w u8 o s 7 1 := by rw [hu8]; exact hB.arr (q := 0) hd (by decide) (by decide) (by rw [e2]; rfl)
  have e2 : u8 o 2 = w s 2 := hB.2.2.1 2 (by decide) (by decide)
  have e6 : u8 o 6 = w s 6 := hB.2.2.1 6 (by decide) (by decide)
  have hO := ho.bb hB
  have hSs := hs.bs hB hd
  refine wp_aload_n (pc' := 74) rfl rfl rfl (by omega) ?_
  refine wp_getR (r' := s + 2) (ci := 3) (k0 := 8) (pc' := 77) rfl rfl (by decide) (by first | assumption | rfl) (hSs.2.2.2.2.1) ?_
  refine wp_iconst (a := 0) (pc' := 78) rfl rfl rfl ?_
  refine wp_aload_n (pc' := 79) rfl rfl rfl (by omega) ?_
  refine wp_getR (r' := o + 2) (ci := 3) (k0 := 8) (pc' := 82) rfl rfl (by decide) (by first | assumption | rfl) (hO.2.2.2.2.1) ?_
  refine wp_iconst (a := 0) (pc' := 83) rfl rfl rfl ?_
  refine wp_aload_n (pc' := 84) rfl rfl rfl (by omega) ?_
  refine wp_getI (ci := 3) (k0 := 2) (pc' := 87) rfl rfl (by decide) (by first | assumption | rfl) ?_
  refine wp_cpy (pc' := 90) rfl rfl (by first | assumption | rfl) (by first | assumption | rfl) (by refine ⟨?_, ?_, ?_, ?_, ?_, by decide⟩ <;> omega) ?_
  obtain ⟨u9, hu9⟩ : ∃ x, x = cpy u8 (s + 2) 0 (o + 2) 0 (u8 o 2) := ⟨_, rfl⟩
  rw [← hu9]
  have hB : BB w u9 o s 7 2 := by rw [hu9]; exact hB.arr (q := 1) hd (by decide) (by decide) (by rw [e2]; rfl)
  have e2 : u9 o 2 = w s 2 := hB.2.2.1 2 (by decide) (by decide)
  have e6 : u9 o 6 = w s 6 := hB.2.2.1 6 (by decide) (by decide)
  have hO := ho.bb hB
  have hSs := hs.bs hB hd
  refine wp_aload_n (pc' := 91) rfl rfl rfl (by omega) ?_
  refine wp_getR (r' := s + 3) (ci := 3) (k0 := 9) (pc' := 94) rfl rfl (by decide) (by first | assumption | rfl) (hSs.2.2.2.2.2.1) ?_
  refine wp_iconst (a := 0) (pc' := 95) rfl rfl rfl ?_
  refine wp_aload_n (pc' := 96) rfl rfl rfl (by omega) ?_
  refine wp_getR (r' := o + 3) (ci := 3) (k0 := 9) (pc' := 99) rfl rfl (by decide) (by first | assumption | rfl) (hO.2.2.2.2.2.1) ?_
  refine wp_iconst (a := 0) (pc' := 100) rfl rfl rfl ?_
  refine wp_aload_n (pc' := 101) rfl rfl rfl (by omega) ?_
  refine wp_getI (ci := 3) (k0 := 2) (pc' := 104) rfl rfl (by decide) (by first | assumption | rfl) ?_
  refine wp_cpy (pc' := 107) rfl rfl (by first | assumption | rfl) (by first | assumption | rfl) (by refine ⟨?_, ?_, ?_, ?_, ?_, by decide⟩ <;> omega) ?_
  obtain ⟨u10, hu10⟩ : ∃ x, x = cpy u9 (s + 3) 0 (o + 3) 0 (u9 o 2) := ⟨_, rfl⟩
  rw [← hu10]
  have hB : BB w u10 o s 7 3 := by rw [hu10]; exact hB.arr (q := 2) hd (by decide) (by decide) (by rw [e2]; rfl)
  have e2 : u10 o 2 = w s 2 := hB.2.2.1 2 (by decide) (by decide)
  have e6 : u10 o 6 = w s 6 := hB.2.2.1 6 (by decide) (by decide)
  have hO := ho.bb hB
  have hSs := hs.bs hB hd
  refine wp_aload_n (pc' := 108) rfl rfl rfl (by omega) ?_
  refine wp_getR (r' := s + 4) (ci := 3) (k0 := 10) (pc' := 111) rfl rfl (by decide) (by first | assumption | rfl) (hSs.2.2.2.2.2.2.1) ?_
  refine wp_iconst (a := 0) (pc' := 112) rfl rfl rfl ?_
  refine wp_aload_n (pc' := 113) rfl rfl rfl (by omega) ?_
  refine wp_getR (r' := o + 4) (ci := 3) (k0 := 10) (pc' := 116) rfl rfl (by decide) (by first | assumption | rfl) (hO.2.2.2.2.2.2.1) ?_
  refine wp_iconst (a := 0) (pc' := 117) rfl rfl rfl ?_
  refine wp_aload_n (pc' := 118) rfl rfl rfl (by omega) ?_
  refine wp_getI (ci := 3) (k0 := 6) (pc' := 121) rfl rfl (by decide) (by first | assumption | rfl) ?_
  refine wp_cpy (pc' := 124) rfl rfl (by first | assumption | rfl) (by first | assumption | rfl) (by refine ⟨?_, ?_, ?_, ?_, ?_, by decide⟩ <;> omega) ?_
  obtain ⟨u11, hu11⟩ : ∃ x, x = cpy u10 (s + 4) 0 (o + 4) 0 (u10 o 6) := ⟨_, rfl⟩
  rw [← hu11]
  have hB : BB w u11 o s 7 4 := by rw [hu11]; exact hB.arr (q := 3) hd (by decide) (by decide) (by rw [e6]; rfl)
  have e2 : u11 o 2 = w s 2 := hB.2.2.1 2 (by decide) (by decide)
  have e6 : u11 o 6 = w s 6 := hB.2.2.1 6 (by decide) (by decide)
  have hO := ho.bb hB
  have hSs := hs.bs hB hd
  refine wp_aload_n (pc' := 125) rfl rfl rfl (by omega) ?_
  refine wp_getR (r' := s + 5) (ci := 3) (k0 := 11) (pc' := 128) rfl rfl (by decide) (by first | assumption | rfl) (hSs.2.2.2.2.2.2.2.1) ?_
  refine wp_iconst (a := 0) (pc' := 129) rfl rfl rfl ?_
  refine wp_aload_n (pc' := 130) rfl rfl rfl (by omega) ?_
  refine wp_getR (r' := o + 5) (ci := 3) (k0 := 11) (pc' := 133) rfl rfl (by decide) (by first | assumption | rfl) (hO.2.2.2.2.2.2.2.1) ?_
  refine wp_iconst (a := 0) (pc' := 134) rfl rfl rfl ?_
  refine wp_aload_n (pc' := 135) rfl rfl rfl (by omega) ?_
  refine wp_getI (ci := 3) (k0 := 6) (pc' := 138) rfl rfl (by decide) (by first | assumption | rfl) ?_
  refine wp_cpy (pc' := 141) rfl rfl (by first | assumption | rfl) (by first | assumption | rfl) (by refine ⟨?_, ?_, ?_, ?_, ?_, by decide⟩ <;> omega) ?_
  obtain ⟨u12, hu12⟩ : ∃ x, x = cpy u11 (s + 5) 0 (o + 5) 0 (u11 o 6) := ⟨_, rfl⟩
  rw [← hu12]
  have hB : BB w u12 o s 7 5 := by rw [hu12]; exact hB.arr (q := 4) hd (by decide) (by decide) (by rw [e6]; rfl)
  have e2 : u12 o 2 = w s 2 := hB.2.2.1 2 (by decide) (by decide)
  have e6 : u12 o 6 = w s 6 := hB.2.2.1 6 (by decide) (by decide)
  have hO := ho.bb hB
  have hSs := hs.bs hB hd
  refine wp_aload_n (pc' := 142) rfl rfl rfl (by omega) ?_
  refine wp_getR (r' := s + 6) (ci := 3) (k0 := 12) (pc' := 145) rfl rfl (by decide) (by first | assumption | rfl) (hSs.2.2.2.2.2.2.2.2.1) ?_
  refine wp_iconst (a := 0) (pc' := 146) rfl rfl rfl ?_
  refine wp_aload_n (pc' := 147) rfl rfl rfl (by omega) ?_
  refine wp_getR (r' := o + 6) (ci := 3) (k0 := 12) (pc' := 150) rfl rfl (by decide) (by first | assumption | rfl) (hO.2.2.2.2.2.2.2.2.1) ?_
  refine wp_iconst (a := 0) (pc' := 151) rfl rfl rfl ?_
  refine wp_aload_n (pc' := 152) rfl rfl rfl (by omega) ?_
  refine wp_getI (ci := 3) (k0 := 6) (pc' := 155) rfl rfl (by decide) (by first | assumption | rfl) ?_
  refine wp_cpy (pc' := 158) rfl rfl (by first | assumption | rfl) (by first | assumption | rfl) (by refine ⟨?_, ?_, ?_, ?_, ?_, by decide⟩ <;> omega) ?_
  obtain ⟨u13, hu13⟩ : ∃ x, x = cpy u12 (s + 6) 0 (o + 6) 0 (u12 o 6) := ⟨_, rfl⟩
  rw [← hu13]
  have hB : BB w u13 o s 7 6 := by rw [hu13]; exact hB.arr (q := 5) hd (by decide) (by decide) (by rw [e6]; rfl)
  have e2 : u13 o 2 = w s 2 := hB.2.2.1 2 (by decide) (by decide)
  have e6 : u13 o 6 = w s 6 := hB.2.2.1 6 (by decide) (by decide)
  have hO := ho.bb hB
  have hSs := hs.bs hB hd
  refine wp_aload_n (pc' := 159) rfl rfl rfl (by omega) ?_
  refine wp_getR (r' := s + 7) (ci := 3) (k0 := 13) (pc' := 162) rfl rfl (by decide) (by first | assumption | rfl) (hSs.2.2.2.2.2.2.2.2.2.1) ?_
  refine wp_iconst (a := 0) (pc' := 163) rfl rfl rfl ?_
  refine wp_aload_n (pc' := 164) rfl rfl rfl (by omega) ?_
  refine wp_getR (r' := o + 7) (ci := 3) (k0 := 13) (pc' := 167) rfl rfl (by decide) (by first | assumption | rfl) (hO.2.2.2.2.2.2.2.2.2.1) ?_
  refine wp_iconst (a := 0) (pc' := 168) rfl rfl rfl ?_
  refine wp_aload_n (pc' := 169) rfl rfl rfl (by omega) ?_
  refine wp_getI (ci := 3) (k0 := 6) (pc' := 172) rfl rfl (by decide) (by first | assumption | rfl) ?_
  refine wp_cpy (pc' := 175) rfl rfl (by first | assumption | rfl) (by first | assumption | rfl) (by refine ⟨?_, ?_, ?_, ?_, ?_, by decide⟩ <;> omega) ?_
  obtain ⟨u14, hu14⟩ : ∃ x, x = cpy u13 (s + 7) 0 (o + 7) 0 (u13 o 6) := ⟨_, rfl⟩
  rw [← hu14]
  have hB : BB w u14 o s 7 7 := by rw [hu14]; exact hB.arr (q := 6) hd (by decide) (by decide) (by rw [e6]; rfl)
  have e2 : u14 o 2 = w s 2 := hB.2.2.1 2 (by decide) (by decide)
  have e6 : u14 o 6 = w s 6 := hB.2.2.1 6 (by decide) (by decide)
  have hO := ho.bb hB
  have hSs := hs.bs hB hd
  refine wp_aload_n (pc' := 176) rfl rfl rfl (by omega) ?_
  refine wp_getR (r' := s + 8) (ci := 3) (k0 := 14) (pc' := 179) rfl rfl (by decide) (by first | assumption | rfl) (hSs.2.2.2.2.2.2.2.2.2.2) ?_
  refine wp_iconst (a := 0) (pc' := 180) rfl rfl rfl ?_
  refine wp_aload_n (pc' := 181) rfl rfl rfl (by omega) ?_
  refine wp_getR (r' := o + 8) (ci := 3) (k0 := 14) (pc' := 184) rfl rfl (by decide) (by first | assumption | rfl) (hO.2.2.2.2.2.2.2.2.2.2) ?_
  refine wp_iconst (a := 0) (pc' := 185) rfl rfl rfl ?_
  refine wp_aload_n (pc' := 186) rfl rfl rfl (by omega) ?_
  refine wp_getI (ci := 3) (k0 := 6) (pc' := 189) rfl rfl (by decide) (by first | assumption | rfl) ?_
  refine wp_cpy (pc' := 192) rfl rfl (by first | assumption | rfl) (by first | assumption | rfl) (by refine ⟨?_, ?_, ?_, ?_, ?_, by decide⟩ <;> omega) ?_
  obtain ⟨u15, hu15⟩ : ∃ x, x = cpy u14 (s + 8) 0 (o + 8) 0 (u14 o 6) := ⟨_, rfl⟩
  rw [← hu15]
  have hB : BB w u15 o s 7 8 := by rw [hu15]; exact hB.arr (q := 7) hd (by decide) (by decide) (by rw [e6]; rfl)
  have e2 : u15 o 2 = w s 2 := hB.2.2.1 2 (by decide) (by decide)
  have e6 : u15 o 6 = w s 6 := hB.2.2.1 6 (by decide) (by decide)
  have hO := ho.bb hB
  have hSs := hs.bs hB hd
  refine wp_ret rfl rfl rfl ?_
  exact ⟨rfl, hB⟩
set_option maxRecDepth 20000 in
set_option maxHeartbeats 4000000 in
theorem l_Mkeep1 {w : Hp} {d : Nat} {k0 : Int} {Q : Option PV → Hp → Prop} (hT0 : Stc w) (hk : 0 ≤ k0 ∧ k0 < 3) (K : ∀ w1 : Hp, Same w w1 [117] → (∀ j : Int, 0 ≤ j → j < 9 → w1 117 (9 * k0 + j) = w 109 (0 + j)) → (∀ z : Int, z < 9 * k0 ∨ 9 * k0 + 9 ≤ z → w1 117 z = w 117 z) → WP SH d 195 69 [some (vR 100), some (vI k0), some (vI (9))] [] w1 Q) : ∀ (k : Nat) (i : Int) (w1 : Hp), 0 ≤ i → i + k = 9 → Same w w1 [117] → (∀ j : Int, 0 ≤ j → j < i → w1 117 (9 * k0 + j) = w 109 (0 + j)) → (∀ z : Int, z < 9 * k0 ∨ 9 * k0 + 9 ≤ z → w1 117 z = w 117 z) → WP SH d 195 40 [some (vR 100), some (vI k0), some (vI i)] [] w1 Q := by
  intro k
  induction k with
  | zero =>
    intro i w1 h0 hik hS hz hy
    have hT := hT0.same hS (by decide)
    have e100 : w1 100 23 = w 100 23 := by rw [hS 100 (by decide)]
    refine wp_iload_n (pc' := 41) rfl rfl rfl ?_
    refine wp_bipush (a := 9) (pc' := 43) rfl rfl rfl ?_
    refine wp_icmp_ge (pc' := 46) (pt := 69) rfl rfl rfl (fun q_1 => ?_) (fun q_1 => ?_)
    · skip
      obtain rfl : i = 9 := by omega
      exact K w1 hS hz hy
    · skip
      exfalso; omega
  | succ k ih =>
    intro i w1 h0 hik hS hz hy
    have hT := hT0.same hS (by decide)
    have e100 : w1 100 23 = w 100 23 := by rw [hS 100 (by decide)]
    refine wp_iload_n (pc' := 41) rfl rfl rfl ?_
    refine wp_bipush (a := 9) (pc' := 43) rfl rfl rfl ?_
    refine wp_icmp_ge (pc' := 46) (pt := 69) rfl rfl rfl (fun q_1 => ?_) (fun q_1 => ?_)
    · skip
      exfalso; omega
    · skip
      refine wp_aload_n (pc' := 47) rfl rfl rfl (by decide) ?_
      refine wp_getR (r' := 117) (ci := 10) (k0 := 27) (pc' := 50) rfl rfl (by decide) (by first | assumption | rfl) (hT.get 115 rfl) ?_
      refine wp_bipush (a := 9) (pc' := 52) rfl rfl rfl ?_
      refine wp_iload_n (pc' := 53) rfl rfl rfl ?_
      refine wp_imul (pc' := 54) rfl rfl (by first | exact w32_id (by omega) (by omega) | rfl) ?_
      refine wp_iload_n (pc' := 55) rfl rfl rfl ?_
      refine wp_iadd (pc' := 56) rfl rfl (by first | exact w32_id (by omega) (by omega) | rfl) ?_
      refine wp_aload_n (pc' := 57) rfl rfl rfl (by decide) ?_
      refine wp_getR (r' := 109) (ci := 10) (k0 := 15) (pc' := 60) rfl rfl (by decide) (by first | assumption | rfl) (hT.get 107 rfl) ?_
      refine wp_iload_n (pc' := 61) rfl rfl rfl ?_
      refine wp_iaload (pc' := 62) rfl rfl (by first | assumption | rfl) (by omega) ?_
      refine wp_iastore (pc' := 63) rfl rfl (by first | assumption | rfl) (by omega) ?_
      refine wp_iinc (pc' := 66) rfl rfl rfl (inc_id (by omega) (by omega)) rfl ?_
      dsimp only [lset, lset2, List.set, List.getElem?_cons_zero, List.getElem?_cons_succ]
      refine wp_goto (pc' := 40) rfl rfl ?_
      refine ih (i + 1) _ (by omega) (by omega) (hS.put (by decide)) (fun j j0 j1 => ?_) (fun z hzz => ?_)
      · by_cases hj : j = i
        · rw [hj, show 9 * k0 + i = 9 * k0 + i by omega, up_eq]
          first | exact congrFun (hS 109 (by decide)) _ | (rw [Int.zero_add]; exact congrFun (hS 109 (by decide)) _)
        · rw [up_at (by omega)]
          exact hz j j0 (by omega)
      · rw [up_at (by omega)]
        exact hy z hzz
set_option maxRecDepth 20000 in
set_option maxHeartbeats 4000000 in
theorem l_Mkeep2 {w : Hp} {d : Nat} {k0 : Int} {Q : Option PV → Hp → Prop} (hT0 : Stc w) (hk : 0 ≤ k0 ∧ k0 < 3) (hm : 0 ≤ w 100 23 ∧ w 100 23 ≤ 40) (K : ∀ w1 : Hp, Same w w1 [118] → (∀ j : Int, 0 ≤ j → j < 9 * w 100 23 → w1 118 (360 * k0 + j) = w 114 (0 + j)) → (∀ z : Int, z < 360 * k0 ∨ 360 * k0 + 9 * w 100 23 ≤ z → w1 118 z = w 118 z) → WP SH d 195 106 [some (vR 100), some (vI k0), some (vI (9 * w 100 23))] [] w1 Q) : ∀ (k : Nat) (i : Int) (w1 : Hp), 0 ≤ i → i + k = 9 * w 100 23 → Same w w1 [118] → (∀ j : Int, 0 ≤ j → j < i → w1 118 (360 * k0 + j) = w 114 (0 + j)) → (∀ z : Int, z < 360 * k0 ∨ 360 * k0 + 9 * w 100 23 ≤ z → w1 118 z = w 118 z) → WP SH d 195 71 [some (vR 100), some (vI k0), some (vI i)] [] w1 Q := by
  intro k
  induction k with
  | zero =>
    intro i w1 h0 hik hS hz hy
    have hT := hT0.same hS (by decide)
    have e100 : w1 100 23 = w 100 23 := by rw [hS 100 (by decide)]
    refine wp_iload_n (pc' := 72) rfl rfl rfl ?_
    refine wp_bipush (a := 9) (pc' := 74) rfl rfl rfl ?_
    refine wp_aload_n (pc' := 75) rfl rfl rfl (by decide) ?_
    refine wp_getI (ci := 10) (k0 := 23) (pc' := 78) rfl rfl (by decide) (by first | assumption | rfl) ?_
    refine wp_imul (pc' := 79) rfl rfl (by first | exact w32_id (by omega) (by omega) | rfl) ?_
    refine wp_icmp_ge (pc' := 82) (pt := 106) rfl rfl rfl (fun q_1 => ?_) (fun q_1 => ?_)
    · skip
      obtain rfl : i = 9 * w 100 23 := by omega
      exact K w1 hS hz hy
    · skip
      exfalso; omega
  | succ k ih =>
    intro i w1 h0 hik hS hz hy
    have hT := hT0.same hS (by decide)
    have e100 : w1 100 23 = w 100 23 := by rw [hS 100 (by decide)]
    refine wp_iload_n (pc' := 72) rfl rfl rfl ?_
    refine wp_bipush (a := 9) (pc' := 74) rfl rfl rfl ?_
    refine wp_aload_n (pc' := 75) rfl rfl rfl (by decide) ?_
    refine wp_getI (ci := 10) (k0 := 23) (pc' := 78) rfl rfl (by decide) (by first | assumption | rfl) ?_
    refine wp_imul (pc' := 79) rfl rfl (by first | exact w32_id (by omega) (by omega) | rfl) ?_
    refine wp_icmp_ge (pc' := 82) (pt := 106) rfl rfl rfl (fun q_1 => ?_) (fun q_1 => ?_)
    · skip
      exfalso; omega
    · skip
      refine wp_aload_n (pc' := 83) rfl rfl rfl (by decide) ?_
      refine wp_getR (r' := 118) (ci := 10) (k0 := 28) (pc' := 86) rfl rfl (by decide) (by first | assumption | rfl) (hT.get 116 rfl) ?_
      refine wp_sipush (a := 360) (pc' := 89) rfl rfl rfl ?_
      refine wp_iload_n (pc' := 90) rfl rfl rfl ?_
      refine wp_imul (pc' := 91) rfl rfl (by first | exact w32_id (by omega) (by omega) | rfl) ?_
      refine wp_iload_n (pc' := 92) rfl rfl rfl ?_
      refine wp_iadd (pc' := 93) rfl rfl (by first | exact w32_id (by omega) (by omega) | rfl) ?_
      refine wp_aload_n (pc' := 94) rfl rfl rfl (by decide) ?_
      refine wp_getR (r' := 114) (ci := 10) (k0 := 24) (pc' := 97) rfl rfl (by decide) (by first | assumption | rfl) (hT.get 112 rfl) ?_
      refine wp_iload_n (pc' := 98) rfl rfl rfl ?_
      refine wp_iaload (pc' := 99) rfl rfl (by first | assumption | rfl) (by omega) ?_
      refine wp_iastore (pc' := 100) rfl rfl (by first | assumption | rfl) (by omega) ?_
      refine wp_iinc (pc' := 103) rfl rfl rfl (inc_id (by omega) (by omega)) rfl ?_
      dsimp only [lset, lset2, List.set, List.getElem?_cons_zero, List.getElem?_cons_succ]
      refine wp_goto (pc' := 71) rfl rfl ?_
      refine ih (i + 1) _ (by omega) (by omega) (hS.put (by decide)) (fun j j0 j1 => ?_) (fun z hzz => ?_)
      · by_cases hj : j = i
        · rw [hj, show 360 * k0 + i = 360 * k0 + i by omega, up_eq]
          first | exact congrFun (hS 114 (by decide)) _ | (rw [Int.zero_add]; exact congrFun (hS 114 (by decide)) _)
        · rw [up_at (by omega)]
          exact hz j j0 (by omega)
      · rw [up_at (by omega)]
        exact hy z hzz
set_option maxRecDepth 20000 in
set_option maxHeartbeats 4000000 in
theorem l_Mon1 {w : Hp} {d : Nat} {k0 : Int} {Q : Option PV → Hp → Prop} (hT0 : Stc w) (hk : 0 ≤ k0 ∧ k0 < 3) (K : ∀ w1 : Hp, Same w w1 [109] → (∀ j : Int, 0 ≤ j → j < 9 → w1 109 (0 + j) = w 117 (9 * k0 + j)) → (∀ z : Int, z < 0 ∨ 0 + 9 ≤ z → w1 109 z = w 109 z) → WP SH d 196 67 [some (vR 100), some (vI k0), some (vI (9))] [] w1 Q) : ∀ (k : Nat) (i : Int) (w1 : Hp), 0 ≤ i → i + k = 9 → Same w w1 [109] → (∀ j : Int, 0 ≤ j → j < i → w1 109 (0 + j) = w 117 (9 * k0 + j)) → (∀ z : Int, z < 0 ∨ 0 + 9 ≤ z → w1 109 z = w 109 z) → WP SH d 196 38 [some (vR 100), some (vI k0), some (vI i)] [] w1 Q := by
  intro k
  induction k with
  | zero =>
    intro i w1 h0 hik hS hz hy
    have hT := hT0.same hS (by decide)
    have e100 : w1 100 23 = w 100 23 := by rw [hS 100 (by decide)]
    refine wp_iload_n (pc' := 39) rfl rfl rfl ?_
    refine wp_bipush (a := 9) (pc' := 41) rfl rfl rfl ?_
    refine wp_icmp_ge (pc' := 44) (pt := 67) rfl rfl rfl (fun q_1 => ?_) (fun q_1 => ?_)
    · skip
      obtain rfl : i = 9 := by omega
      exact K w1 hS hz hy
    · skip
      exfalso; omega
  | succ k ih =>
    intro i w1 h0 hik hS hz hy
    have hT := hT0.same hS (by decide)
    have e100 : w1 100 23 = w 100 23 := by rw [hS 100 (by decide)]
    refine wp_iload_n (pc' := 39) rfl rfl rfl ?_
    refine wp_bipush (a := 9) (pc' := 41) rfl rfl rfl ?_
    refine wp_icmp_ge (pc' := 44) (pt := 67) rfl rfl rfl (fun q_1 => ?_) (fun q_1 => ?_)
    · skip
      exfalso; omega
    · skip
      refine wp_aload_n (pc' := 45) rfl rfl rfl (by decide) ?_
      refine wp_getR (r' := 109) (ci := 10) (k0 := 15) (pc' := 48) rfl rfl (by decide) (by first | assumption | rfl) (hT.get 107 rfl) ?_
      refine wp_iload_n (pc' := 49) rfl rfl rfl ?_
      refine wp_aload_n (pc' := 50) rfl rfl rfl (by decide) ?_
      refine wp_getR (r' := 117) (ci := 10) (k0 := 27) (pc' := 53) rfl rfl (by decide) (by first | assumption | rfl) (hT.get 115 rfl) ?_
      refine wp_bipush (a := 9) (pc' := 55) rfl rfl rfl ?_
      refine wp_iload_n (pc' := 56) rfl rfl rfl ?_
      refine wp_imul (pc' := 57) rfl rfl (by first | exact w32_id (by omega) (by omega) | rfl) ?_
      refine wp_iload_n (pc' := 58) rfl rfl rfl ?_
      refine wp_iadd (pc' := 59) rfl rfl (by first | exact w32_id (by omega) (by omega) | rfl) ?_
      refine wp_iaload (pc' := 60) rfl rfl (by first | assumption | rfl) (by omega) ?_
      refine wp_iastore (pc' := 61) rfl rfl (by first | assumption | rfl) (by omega) ?_
      refine wp_iinc (pc' := 64) rfl rfl rfl (inc_id (by omega) (by omega)) rfl ?_
      dsimp only [lset, lset2, List.set, List.getElem?_cons_zero, List.getElem?_cons_succ]
      refine wp_goto (pc' := 38) rfl rfl ?_
      refine ih (i + 1) _ (by omega) (by omega) (hS.put (by decide)) (fun j j0 j1 => ?_) (fun z hzz => ?_)
      · by_cases hj : j = i
        · rw [hj, show (0 : Int) + i = i by omega, up_eq]
          first | exact congrFun (hS 117 (by decide)) _ | (rw [Int.zero_add]; exact congrFun (hS 117 (by decide)) _)
        · rw [up_at (by omega)]
          exact hz j j0 (by omega)
      · rw [up_at (by omega)]
        exact hy z hzz
set_option maxRecDepth 20000 in
set_option maxHeartbeats 4000000 in
theorem l_Mon2 {w : Hp} {d : Nat} {k0 : Int} {Q : Option PV → Hp → Prop} (hT0 : Stc w) (hk : 0 ≤ k0 ∧ k0 < 3) (hm : 0 ≤ w 100 23 ∧ w 100 23 ≤ 40) (K : ∀ w1 : Hp, Same w w1 [114] → (∀ j : Int, 0 ≤ j → j < 9 * w 100 23 → w1 114 (0 + j) = w 118 (360 * k0 + j)) → (∀ z : Int, z < 0 ∨ 0 + 9 * w 100 23 ≤ z → w1 114 z = w 114 z) → WP SH d 196 104 [some (vR 100), some (vI k0), some (vI (9 * w 100 23))] [] w1 Q) : ∀ (k : Nat) (i : Int) (w1 : Hp), 0 ≤ i → i + k = 9 * w 100 23 → Same w w1 [114] → (∀ j : Int, 0 ≤ j → j < i → w1 114 (0 + j) = w 118 (360 * k0 + j)) → (∀ z : Int, z < 0 ∨ 0 + 9 * w 100 23 ≤ z → w1 114 z = w 114 z) → WP SH d 196 69 [some (vR 100), some (vI k0), some (vI i)] [] w1 Q := by
  intro k
  induction k with
  | zero =>
    intro i w1 h0 hik hS hz hy
    have hT := hT0.same hS (by decide)
    have e100 : w1 100 23 = w 100 23 := by rw [hS 100 (by decide)]
    refine wp_iload_n (pc' := 70) rfl rfl rfl ?_
    refine wp_bipush (a := 9) (pc' := 72) rfl rfl rfl ?_
    refine wp_aload_n (pc' := 73) rfl rfl rfl (by decide) ?_
    refine wp_getI (ci := 10) (k0 := 23) (pc' := 76) rfl rfl (by decide) (by first | assumption | rfl) ?_
    refine wp_imul (pc' := 77) rfl rfl (by first | exact w32_id (by omega) (by omega) | rfl) ?_
    refine wp_icmp_ge (pc' := 80) (pt := 104) rfl rfl rfl (fun q_1 => ?_) (fun q_1 => ?_)
    · skip
      obtain rfl : i = 9 * w 100 23 := by omega
      exact K w1 hS hz hy
    · skip
      exfalso; omega
  | succ k ih =>
    intro i w1 h0 hik hS hz hy
    have hT := hT0.same hS (by decide)
    have e100 : w1 100 23 = w 100 23 := by rw [hS 100 (by decide)]
    refine wp_iload_n (pc' := 70) rfl rfl rfl ?_
    refine wp_bipush (a := 9) (pc' := 72) rfl rfl rfl ?_
    refine wp_aload_n (pc' := 73) rfl rfl rfl (by decide) ?_
    refine wp_getI (ci := 10) (k0 := 23) (pc' := 76) rfl rfl (by decide) (by first | assumption | rfl) ?_
    refine wp_imul (pc' := 77) rfl rfl (by first | exact w32_id (by omega) (by omega) | rfl) ?_
    refine wp_icmp_ge (pc' := 80) (pt := 104) rfl rfl rfl (fun q_1 => ?_) (fun q_1 => ?_)
    · skip
      exfalso; omega
    · skip
      refine wp_aload_n (pc' := 81) rfl rfl rfl (by decide) ?_
      refine wp_getR (r' := 114) (ci := 10) (k0 := 24) (pc' := 84) rfl rfl (by decide) (by first | assumption | rfl) (hT.get 112 rfl) ?_
      refine wp_iload_n (pc' := 85) rfl rfl rfl ?_
      refine wp_aload_n (pc' := 86) rfl rfl rfl (by decide) ?_
      refine wp_getR (r' := 118) (ci := 10) (k0 := 28) (pc' := 89) rfl rfl (by decide) (by first | assumption | rfl) (hT.get 116 rfl) ?_
      refine wp_sipush (a := 360) (pc' := 92) rfl rfl rfl ?_
      refine wp_iload_n (pc' := 93) rfl rfl rfl ?_
      refine wp_imul (pc' := 94) rfl rfl (by first | exact w32_id (by omega) (by omega) | rfl) ?_
      refine wp_iload_n (pc' := 95) rfl rfl rfl ?_
      refine wp_iadd (pc' := 96) rfl rfl (by first | exact w32_id (by omega) (by omega) | rfl) ?_
      refine wp_iaload (pc' := 97) rfl rfl (by first | assumption | rfl) (by omega) ?_
      refine wp_iastore (pc' := 98) rfl rfl (by first | assumption | rfl) (by omega) ?_
      refine wp_iinc (pc' := 101) rfl rfl rfl (inc_id (by omega) (by omega)) rfl ?_
      dsimp only [lset, lset2, List.set, List.getElem?_cons_zero, List.getElem?_cons_succ]
      refine wp_goto (pc' := 69) rfl rfl ?_
      refine ih (i + 1) _ (by omega) (by omega) (hS.put (by decide)) (fun j j0 j1 => ?_) (fun z hzz => ?_)
      · by_cases hj : j = i
        · rw [hj, show (0 : Int) + i = i by omega, up_eq]
          first | exact congrFun (hS 118 (by decide)) _ | (rw [Int.zero_add]; exact congrFun (hS 118 (by decide)) _)
        · rw [up_at (by omega)]
          exact hz j j0 (by omega)
      · rw [up_at (by omega)]
        exact hy z hzz
