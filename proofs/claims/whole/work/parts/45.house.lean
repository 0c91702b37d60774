/-! lands changed: what is left of the invariant to show; moves of a whole land -/
def LL : List Int := LQ ++ [4, 5, 6, 7, 8, 9, 10, 11, 74, 75, 76, 77, 78, 79, 80, 81, 83, 84, 85, 86, 87, 88, 89, 90, 92, 93, 94, 95, 96, 97, 98, 99, 107, 108, 109, 114, 115, 116, 117, 118]
def FL : List (Int × Int) := FQ ++ [(3, 0), (3, 1), (3, 2), (3, 3), (3, 4), (3, 5), (3, 6), (73, 0), (73, 1), (73, 2), (73, 3), (73, 4), (73, 5), (73, 6), (82, 0), (82, 1), (82, 2), (82, 3), (82, 4), (82, 5), (82, 6), (91, 0), (91, 1), (91, 2), (91, 3), (91, 4), (91, 5), (91, 6), (100, 10), (100, 11), (100, 12), (100, 23)]
theorem Inv.land0 {w w' : Hp} (h : Inv w) (hs : SameF w w' LL FL) (ht : w' 0 14 = w' 100 2) (hL : ILn w') (hK : IKp w') : Inv w' := by
  obtain ⟨h1, h2, h3, h4, h5, h6, h7, h8⟩ := h
  have hr : ∀ q : Int, (52 ≤ q ∧ q ≤ 72) ∨ (101 ≤ q ∧ q ≤ 103) ∨ (105 ≤ q ∧ q ≤ 106) ∨ (q < 0) ∨ q = 31 → w' q = w q := fun q hq => hs.cell q (by simp [LL, LQ]; omega) (fun z hz => by
    have hz2 : FL.all (fun z => decide (z.1 = 0 ∨ z.1 = 3 ∨ z.1 = 12 ∨ z.1 = 22 ∨ z.1 = 26 ∨ z.1 = 45 ∨ z.1 = 50 ∨ z.1 = 73 ∨ z.1 = 82 ∨ z.1 = 91 ∨ z.1 = 100)) = true := by decide
    have := of_decide_eq_true (List.all_eq_true.mp hz2 z hz)
    omega)
  refine ⟨h1.sameF hs (by decide), ?_, ?_, ht, ?_, ?_, hL, hK⟩
  · unfold ROw at h2 ⊢
    rw [hr (-3) (by omega), hr (-4) (by omega), hr (-5) (by omega)]
    exact h2
  · unfold IFd at h3 ⊢
    rw [hs 0 13 (by decide) (by decide), hs 100 0 (by decide) (by decide), hs 100 3 (by decide) (by decide), hs 100 4 (by decide) (by decide), hr 52 (by omega), hr 101 (by omega), hs 50 0 (by decide) (by decide), hs 50 1 (by decide) (by decide), hr 31 (by omega)]
    exact h3
  · intro q a b
    rw [hr (53 + 2 * q) (by omega), hr (54 + 2 * q) (by omega), hr 102 (by omega), hr 103 (by omega)]
    exact h5 q a b
  · intro q a b
    rw [hr (65 + 2 * q) (by omega), hr (66 + 2 * q) (by omega), hr 105 (by omega), hr 106 (by omega)]
    exact h6 q a b
theorem IKp.md {w w' : Hp} (h : IKp w) (hM : MdOK w') (hk : ∀ q : Int, 73 ≤ q → q ≤ 99 → w' q = w q) (h2 : w' 100 10 = w 100 10 ∧ w' 100 11 = w 100 11 ∧ w' 100 12 = w 100 12) (h7 : w' 107 = w 107) (h8 : w' 108 = w 108) (h15 : w' 115 = w 115 ∧ w' 116 = w 116 ∧ w' 117 = w 117 ∧ w' 118 = w 118) : IKp w' := by
  intro k k0 k1
  rw [h15.1, h15.2.1, h15.2.2.1, h15.2.2.2, hk (73 + 9 * k) (by omega) (by omega)]
  rcases h k k0 k1 with z | ⟨z1, z2, z3⟩
  · exact Or.inl z
  · exact Or.inr ⟨z1, hM, z3.congr (fun q c d => hk q (by omega) (by omega)) h2 h7 h8⟩
theorem Inv.lr {w : Hp} (h : Inv w) (hn : w 3 2 ≠ 0) : LR w 3 (w 109) (w 114) (w 100 23) := by
  rcases h.2.2.2.2.2.2.1 with hE | hE
  · exact absurd hE.2.2.1 hn
  · exact hE.2
theorem LR.move {w w' : Hp} {o s : Int} {N G N' G' : Int → Int} {m : Int} (h : LR w s N G m) (hn : w 100 10 ≤ 6) (hr : w' 100 10 = w 100 10 ∧ w' 100 11 = w 100 11 ∧ w' 100 12 = w 100 12 ∧ w' 107 = w 107 ∧ w' 108 = w 108) (hf : ∀ j : Int, 0 ≤ j → j < 7 → w' o j = w s j) (ha : ∀ q : Int, 1 ≤ q → q ≤ 8 → ∀ j : Int, 0 ≤ j → j < (if q ≤ 3 then w s 2 else w s 6) → w' (o + q) j = w (s + q) j) (hN : ∀ j : Int, 0 ≤ j → j < 9 → N' j = N j) (hG : ∀ z : Int, 0 ≤ z → z < 9 * m → G' z = G z) : LR w' o N' G' m := by
  obtain ⟨⟨a0, a1, a2, a3, a4, a5, a6⟩, am, ac, ab, ay, ah, al⟩ := h
  obtain ⟨r10, r11, r12, r7, r8⟩ := hr
  refine ⟨⟨by rw [hf 0 (by decide) (by decide), r11, a0], by rw [hf 1 (by decide) (by decide), r12, a1], by rw [hf 2 (by decide) (by decide), r10, a2], by rw [hf 3 (by decide) (by decide), hN 0 (by decide) (by decide), a3], by rw [hf 4 (by decide) (by decide), hN 1 (by decide) (by decide), a4], by rw [hf 5 (by decide) (by decide), hN 2 (by decide) (by decide), a5], by rw [hf 6 (by decide) (by decide), a6]⟩, am, by rw [r11, r12, hN 0 (by decide) (by decide)]; exact ac, by rw [hN 1 (by decide) (by decide)]; exact ab, by rw [hN 2 (by decide) (by decide)]; exact ay, fun i i0 i1 => ?_, fun e e0 e1 => ?_⟩
  · rw [r10] at i1
    obtain ⟨y1, y2, y3, y4⟩ := ah i i0 i1
    rw [ha 1 (by decide) (by decide) i i0 (by rw [if_pos (by decide)]; omega), ha 2 (by decide) (by decide) i i0 (by rw [if_pos (by decide)]; omega), ha 3 (by decide) (by decide) i i0 (by rw [if_pos (by decide)]; omega), r7, r8, r11, r12, hN (3 + i) (by omega) (by omega)]
    exact ⟨y1, y2, y3, y4⟩
  · obtain ⟨y1, y2, y3, y4, y5, y6, y7⟩ := al e e0 e1
    rw [ha 4 (by decide) (by decide) e e0 (by rw [if_neg (by decide)]; omega), ha 5 (by decide) (by decide) e e0 (by rw [if_neg (by decide)]; omega), ha 6 (by decide) (by decide) e e0 (by rw [if_neg (by decide)]; omega), ha 7 (by decide) (by decide) e e0 (by rw [if_neg (by decide)]; omega), ha 8 (by decide) (by decide) e e0 (by rw [if_neg (by decide)]; omega), r10, r11, r12, hG (9 * e) (by omega) (by omega), hG (9 * e + 1) (by omega) (by omega), hG (9 * e + 2) (by omega) (by omega)]
    refine ⟨y1, y2, y3, y4, y5, y6, fun i i0 i1 => ?_⟩
    rw [hG (9 * e + 3 + i) (by omega) (by omega), hN (3 + i) (by omega) (by omega)]
    have hz := y7 i i0 i1
    by_cases hl : e + 1 < m
    · rw [if_pos hl] at hz ⊢
      rw [hG (9 * (e + 1) + 3 + i) (by omega) (by omega)]
      exact hz
    · rw [if_neg hl] at hz ⊢
      exact hz
/-- a deed undone -/
theorem LR.undo {w w' : Hp} {N G : Int → Int} {e : Int} (h : LR w 3 N G (e + 1)) (h0 : 0 ≤ e) (hs : SameF w w' [] [(3, 3), (3, 4), (3, 5), (3, 6), (5, w 10 e)]) (h3 : w' 3 3 = w 7 e ∧ w' 3 4 = w 8 e ∧ w' 3 5 = w 9 e ∧ w' 3 6 = e) (h5 : 0 ≤ w 10 e ∧ w 10 e < w 3 2 → w' 5 (w 10 e) = w 11 e) : LR w' 3 (fun k => G (9 * e + k)) G e := by
  obtain ⟨⟨a0, a1, a2, a3, a4, a5, a6⟩, am, ac, ab, ay, ah, al⟩ := h
  have hc : ∀ q : Int, q ≠ 3 → q ≠ 5 → w' q = w q := fun q a b => hs.cell q (by simp) (by simp; omega)
  have h3k : ∀ k : Int, k < 3 → w' 3 k = w 3 k := fun k hk => hs 3 k (by simp) (by simp; omega)
  obtain ⟨x1, x2, x3, x4, x5, x6, x7⟩ := al e h0 (by omega)
  rw [show (3 : Int) + 7 = 10 from rfl, show (3 : Int) + 8 = 11 from rfl] at x7
  rw [show (3 : Int) + 4 = 7 from rfl] at x1
  rw [show (3 : Int) + 5 = 8 from rfl] at x2
  rw [show (3 : Int) + 6 = 9 from rfl] at x3
  refine ⟨⟨by rw [h3k 0 (by decide), hc 100 (by decide) (by decide)]; exact a0, by rw [h3k 1 (by decide), hc 100 (by decide) (by decide)]; exact a1, by rw [h3k 2 (by decide), hc 100 (by decide) (by decide)]; exact a2, by dsimp only; rw [h3.1, x1, Int.add_zero], by dsimp only; rw [h3.2.1, x2], by dsimp only; rw [h3.2.2.1, x3], h3.2.2.2⟩, by omega, by dsimp only; rw [Int.add_zero, hc 100 (by decide) (by decide)]; exact x4, x5, x6, fun i i0 i1 => ?_, fun f f0 f1 => ?_⟩
  · rw [hc 100 (by decide) (by decide)] at i1
    obtain ⟨y1, y2, y3, y4⟩ := ah i i0 i1
    obtain ⟨z1, z2⟩ := x7 i i0 i1
    rw [if_neg (show ¬ e + 1 < e + 1 by omega)] at z1
    rw [hc 100 (by decide) (by decide), hc 107 (by decide) (by decide), hc 108 (by decide) (by decide), show (3 : Int) + 1 = 4 from rfl, show (3 : Int) + 2 = 5 from rfl, show (3 : Int) + 3 = 6 from rfl, hc 4 (by decide) (by decide), hc 6 (by decide) (by decide)]
    dsimp only
    refine ⟨y1, ?_, y3, by rw [show 9 * e + (3 + i) = 9 * e + 3 + i by omega]; exact z2⟩
    rw [show 9 * e + (3 + i) = 9 * e + 3 + i by omega, z1]
    by_cases hi : w 10 e = i
    · rw [if_pos hi, ← hi]
      exact h5 (by omega)
    · rw [if_neg hi, hs 5 i (by simp) (by simp; omega)]
      exact y2
  · obtain ⟨y1, y2, y3, y4, y5, y6, y7⟩ := al f f0 (by omega)
    rw [hc 100 (by decide) (by decide), hc (3 + 4) (by decide) (by decide), hc (3 + 5) (by decide) (by decide), hc (3 + 6) (by decide) (by decide), hc (3 + 7) (by decide) (by decide), hc (3 + 8) (by decide) (by decide)]
    refine ⟨y1, y2, y3, y4, y5, y6, fun i i0 i1 => ?_⟩
    have hz := y7 i i0 i1
    rw [if_pos (show f + 1 < e + 1 by omega)] at hz
    by_cases hl : f + 1 < e
    · rw [if_pos hl]
      exact hz
    · rw [if_neg hl]
      dsimp only
      rw [show 9 * e + (3 + i) = 9 * (f + 1) + 3 + i by omega]
      exact hz
def HQ (m i : Int) : List (Int × Int) := [(7, m), (8, m), (9, m), (10, m), (11, m), (3, 6), (5, i)]
theorem house_end {w w1 w2 : Hp} {i cell : Int} (hI : Inv w) (hi : 0 ≤ i ∧ i < w 3 2) (hcl : Cel (w 3 0) (w 3 1) cell) (hm : w 3 6 < 40) (hS1 : SameF w w1 [] (HQ (w 3 6) i)) (hx : w1 7 (w 3 6) = w 3 3 ∧ w1 8 (w 3 6) = w 3 4 ∧ w1 9 (w 3 6) = w 3 5 ∧ w1 10 (w 3 6) = i ∧ w1 11 (w 3 6) = w 5 i ∧ w1 3 6 = w 3 6 + 1 ∧ w1 5 i = cell) (hS2 : SameF w1 w2 [114] [(100, 23)]) (hg : ∀ j : Int, 0 ≤ j → j < 9 → w2 114 (9 * w1 100 23 + j) = w1 109 j) (ho : ∀ z : Int, z < 9 * w1 100 23 → w2 114 z = w1 114 z) (h23 : w2 100 23 = w1 100 23 + 1) : (up w2 109 (3 + i) cell) (-2) = w1 (-2) ∧ Inv (up w2 109 (3 + i) cell) := by
  obtain ⟨hn25, b11, b12, b10, hn6, hem, m0, m1, m2, m23, hyr, hdd, hpre⟩ := hI.base
  have hn : w 3 2 ≠ 0 := by omega
  have hpr := hpre hn
  have hLR := hI.lr hn
  have er : ∀ q : Int, 100 ≤ q → w1 q = w q := fun q hq => hS1.cell q (by simp) (by simp [HQ]; omega)
  rw [er 100 (by decide), m23] at hg ho h23
  rw [er 109 (by decide)] at hg
  rw [er 114 (by decide)] at ho
  obtain ⟨x7, x8, x9, x10, x11, x36, x5⟩ := hx
  have el : ∀ q : Int, q < 100 → up w2 109 (3 + i) cell q = w1 q := fun q hq => by rw [up_ne (by omega)]; exact hS2.cell q (by simp; omega) (by simp; omega)
  have e9 : ∀ j : Int, j ≠ 3 + i → up w2 109 (3 + i) cell 109 j = w 109 j := fun j hj => by rw [up_at hj, hS2.cell 109 (by decide) (by decide), er 109 (by decide)]
  have e9i : up w2 109 (3 + i) cell 109 (3 + i) = cell := up_eq _ _ _ _
  have eq9 : ∀ q : Int, 100 < q → q ≠ 109 → q ≠ 114 → up w2 109 (3 + i) cell q = w q := fun q a b c => by rw [up_ne b, hS2.cell q (by simp; omega) (by simp; omega), er q (by omega)]
  have e14 : up w2 109 (3 + i) cell 114 = w2 114 := up_ne (by decide)
  have e100 : ∀ k : Int, k ≠ 23 → up w2 109 (3 + i) cell 100 k = w 100 k := fun k hk => by rw [up_ne (by decide), hS2 100 k (by decide) (by simp; omega), er 100 (by decide)]
  have e23 : up w2 109 (3 + i) cell 100 23 = w 3 6 + 1 := by rw [up_ne (by decide), h23]
  have hSs : SameF w (up w2 109 (3 + i) cell) LL FL := by
    refine SameF.put (SameF.tr (b := w1) (hS1.mono (fun r hr => absurd hr (by simp)) (fun q hq => by simp [HQ] at hq; rcases hq with rfl | rfl | rfl | rfl | rfl | rfl | rfl <;> simp [FL, LL])) (hS2.mono (fun r hr => by simp at hr; simp [LL, hr]) (fun q hq => by simp at hq; simp [FL, hq]))) (Or.inl (by decide))
  generalize up w2 109 (3 + i) cell = w' at *
  have hM' : MdOK w' := by
    obtain ⟨q1, q2, q3⟩ := hpr.2.1
    refine ⟨by rw [e100 11 (by decide), e100 12 (by decide)]; exact q1, by rw [e100 10 (by decide)]; exact q2, fun j j0 j1 => ?_⟩
    rw [e100 10 (by decide)] at j1
    rw [eq9 107 (by decide) (by decide) (by decide), eq9 108 (by decide) (by decide) (by decide), e100 11 (by decide), e100 12 (by decide)]
    obtain ⟨t1, t2, t3⟩ := q3 j j0 j1
    refine ⟨t1, ?_, t3⟩
    by_cases hj : j = i
    · subst hj
      rw [e9i, b11, b12]
      exact hcl
    · rw [e9 _ (by omega)]
      exact t2
  refine ⟨el (-2) (by decide), hI.land0 hSs ?_ (Or.inr ⟨hM', ?_⟩) ?_⟩
  · rw [el 0 (by decide), hS1 0 14 (by simp) (by simp [HQ]), e100 2 (by decide)]
    exact hI.2.2.2.1
  · rw [e23, ← m23]
    refine hLR.deed (by omega) ⟨e100 10 (by decide), e100 11 (by decide), e100 12 (by decide), eq9 107 (by decide) (by decide) (by decide), eq9 108 (by decide) (by decide) (by decide)⟩ ⟨?_, ?_, ?_, ?_, ?_, ?_, ?_⟩ ⟨?_, ?_, ?_⟩ (fun j j0 j1 => ⟨?_, ?_, ?_, ?_⟩) (fun q a b e e0 e1 => ?_) ?_ (fun j j0 j1 => ?_) ⟨fun z hz => ?_, fun k k0 k1 => ?_⟩ (by omega)
    · rw [el 3 (by decide), hS1 3 0 (by simp) (by simp [HQ])]
    · rw [el 3 (by decide), hS1 3 1 (by simp) (by simp [HQ])]
    · rw [el 3 (by decide), hS1 3 2 (by simp) (by simp [HQ])]
    · rw [el 3 (by decide), hS1 3 3 (by simp) (by simp [HQ]), e9 0 (by omega), m0]
    · rw [el 3 (by decide), hS1 3 4 (by simp) (by simp [HQ]), e9 1 (by omega), m1]
    · rw [el 3 (by decide), hS1 3 5 (by simp) (by simp [HQ]), e9 2 (by omega), m2]
    · rw [el 3 (by decide), x36, m23]
    · rw [e9 0 (by omega), b11, b12, m0]; exact hpr.2.2.1
    · rw [e9 1 (by omega), m1]; exact hpr.2.2.2.1
    · rw [e9 2 (by omega), m2]; omega
    · rw [show (3 : Int) + 1 = 4 from rfl, el 4 (by decide), hS1 4 j (by simp) (by simp [HQ])]
    · rw [show (3 : Int) + 2 = 5 from rfl, el 5 (by decide)]
      by_cases hj : j = i
      · subst hj
        rw [x5, e9i]
      · rw [hS1 5 j (by simp) (by simp [HQ]; omega), e9 _ (by omega)]
        exact (hpr.2.2.2.2 j j0 (by omega)).2.1.symm
    · rw [show (3 : Int) + 3 = 6 from rfl, el 6 (by decide), hS1 6 j (by simp) (by simp [HQ])]
    · have := (hM'.2.2 j j0 (by rw [e100 10 (by decide)]; exact j1)).2.1
      rw [e100 11 (by decide), e100 12 (by decide)] at this
      exact this
    · rw [el q (by omega), hS1 q e (by simp) (by simp [HQ]; omega)]
    · rw [m23, show (3 : Int) + 4 = 7 from rfl, show (3 : Int) + 5 = 8 from rfl, show (3 : Int) + 6 = 9 from rfl, el 7 (by decide), el 8 (by decide), el 9 (by decide), x7, x8, x9, m0, m1, m2]
      exact ⟨rfl, rfl, rfl⟩
    · rw [m23, show (3 : Int) + 7 = 10 from rfl, show (3 : Int) + 8 = 11 from rfl, el 10 (by decide), el 11 (by decide), x10, x11]
      by_cases hj : i = j
      · subst hj
        rw [if_pos rfl]
        exact (hpr.2.2.2.2 i j0 (by omega)).2.1
      · rw [if_neg hj, e9 _ (by omega)]
    · rw [e14, ho z (by omega)]
    · rw [e14, m23, hg k k0 k1]
  · exact hI.2.2.2.2.2.2.2.md hM' (fun q a b => by rw [el q (by omega)]; exact hS1.cell q (by simp) (by simp [HQ]; omega)) ⟨e100 10 (by decide), e100 11 (by decide), e100 12 (by decide)⟩ (eq9 107 (by decide) (by decide) (by decide)) (eq9 108 (by decide) (by decide) (by decide)) ⟨eq9 115 (by decide) (by decide) (by decide), eq9 116 (by decide) (by decide) (by decide), eq9 117 (by decide) (by decide) (by decide), eq9 118 (by decide) (by decide) (by decide)⟩
set_option maxRecDepth 20000 in
set_option maxHeartbeats 4000000 in
theorem c_Land_moveHouse {w : Hp} {d : Nat} {i cell : Int} (hT : Stc w) (hm : 0 ≤ w 3 6 ∧ w 3 6 < 40) (hi : 0 ≤ i ∧ i < w 3 2) (h6 : w 3 2 ≤ 6) : WP SH (d + 2) 46 0 [some (vR 3), some (vI i), some (vI cell)] [] w (fun v w' => v = none ∧ SameF w w' [] (HQ (w 3 6) i) ∧ w' 7 (w 3 6) = w 3 3 ∧ w' 8 (w 3 6) = w 3 4 ∧ w' 9 (w 3 6) = w 3 5 ∧ w' 10 (w 3 6) = i ∧ w' 11 (w 3 6) = w 5 i ∧ w' 3 6 = w 3 6 + 1 ∧ w' 5 i = cell) := by
  refine wp_aload_n (pc' := 1) rfl rfl rfl (by decide) ?_
  refine wp_iload_n (pc' := 2) rfl rfl rfl ?_
  refine wp_call (pc' := 5) rfl rfl rfl rfl rfl ⟨Nat.le_of_ble_eq_true rfl, Nat.le_of_ble_eq_true rfl, Nat.le_of_ble_eq_true rfl, Nat.le_of_ble_eq_true rfl, Nat.le_of_ble_eq_true rfl⟩ rfl (c_Land_remember (one := i) hT hm (by omega)) ?_
  rintro v1 w1 ⟨hv1, hS1, x7, x8, x9, x10, x11, x36⟩
  · skip
    rw [hv1]
    clear hv1 v1
    have hT := hT.sameF (L := [7, 8, 9, 10, 11]) (F := [(3, 6)]) (hS1.mono (fun r hr => absurd hr (by simp)) (fun q hq => by simp at hq ⊢; rcases hq with rfl | rfl | rfl | rfl | rfl | rfl <;> simp)) (by decide)
    rw [if_pos hi] at x11
    dsimp only [Option.toList, List.cons_append, List.nil_append, List.append_nil]
    refine wp_if_eq (pc' := 8) (pt := 15) rfl rfl rfl (fun q_1 => absurd q_1 (by decide)) (fun q_1 => ?_)
    refine wp_aload_n (pc' := 9) rfl rfl rfl (by decide) ?_
    refine wp_getR (r' := 5) (ci := 3) (k0 := 8) (pc' := 12) rfl rfl (by decide) (by first | assumption | rfl) (hT.get 24 rfl) ?_
    refine wp_iload_n (pc' := 13) rfl rfl rfl ?_
    refine wp_iload_n (pc' := 14) rfl rfl rfl ?_
    refine wp_iastore (pc' := 15) rfl rfl (by first | assumption | rfl) (by omega) ?_
    refine wp_ret rfl rfl rfl ?_
    refine ⟨rfl, (hS1.mono (fun r hr => hr) (fun q hq => Or.inl (by simp at hq; rcases hq with rfl | rfl | rfl | rfl | rfl | rfl <;> simp [HQ]))).put (Or.inr (by simp [HQ])), ?_, ?_, ?_, ?_, ?_, ?_, ?_⟩
    · rw [up_ne (by decide)]; exact x7
    · rw [up_ne (by decide)]; exact x8
    · rw [up_ne (by decide)]; exact x9
    · rw [up_ne (by decide)]; exact x10
    · rw [up_ne (by decide)]; exact x11
    · rw [up_ne (by decide)]; exact x36
    · rw [up_eq]
set_option maxRecDepth 20000 in
set_option maxHeartbeats 4000000 in
theorem p_house {w : Hp} {d : Nat} {i : Int} {cell : Int} (hI : Inv w) : WP SH (d + 9) 95 0 [some (vR 0), some (vI i), some (vI cell), none] [] w (fun v0 w1 => ∃ a, v0 = some (vI a) ∧ w1 (-2) = w (-2) ∧ WP SH (d + 9) 193 0 [some (vR 100), some (vI i), some (vI cell), none] [] w1 (fun v2 w2 => v2 = some (vI a) ∧ w2 (-2) = w1 (-2) ∧ Inv w2)) := by
  obtain ⟨hT, hRO, hIF, hITo, hIR, hIT, hIL, hIK⟩ := id hI
  obtain ⟨hn25, b11, b12, b10, hn6, hem, m0, m1, m2, m23, hyr, hdd, hpre⟩ := hI.base
  have hmm : w 100 11 * w 100 12 = w 3 0 * w 3 1 := by rw [b11, b12]
  refine wp_aload_n (pc' := 1) rfl rfl rfl (by decide) ?_
  refine wp_getR (r' := 3) (ci := 9) (k0 := 2) (pc' := 4) rfl rfl (by decide) (by first | assumption | rfl) (hT.get 2 rfl) ?_
  refine wp_iload_n (pc' := 5) rfl rfl rfl ?_
  refine wp_call (pc' := 8) rfl rfl rfl rfl rfl ⟨Nat.le_of_ble_eq_true rfl, Nat.le_of_ble_eq_true rfl, Nat.le_of_ble_eq_true rfl, Nat.le_of_ble_eq_true rfl, Nat.le_of_ble_eq_true rfl⟩ rfl (c_Land_hasOne) ?_
  rintro v1 w9 ⟨hw9, ⟨hv1, ho⟩ | ⟨hv1, ho⟩⟩
  · skip
    rw [hv1, hw9]
    clear hv1 hw9 v1 w9
    have hh5 : w 109 (3 + i) = w 5 i := ((hpre (by omega)).2.2.2.2 i (by omega) (by omega)).2.1
    dsimp only [Option.toList, List.cons_append, List.nil_append, List.append_nil]
    refine wp_if_eq (pc' := 11) (pt := 22) rfl rfl rfl (fun q_1 => absurd q_1 (by decide)) (fun q_1 => ?_)
    refine wp_aload_n (pc' := 12) rfl rfl rfl (by decide) ?_
    refine wp_getR (r' := 3) (ci := 9) (k0 := 2) (pc' := 15) rfl rfl (by decide) (by first | assumption | rfl) (hT.get 2 rfl) ?_
    refine wp_iload_n (pc' := 16) rfl rfl rfl ?_
    refine wp_call (pc' := 19) rfl rfl rfl rfl rfl ⟨Nat.le_of_ble_eq_true rfl, Nat.le_of_ble_eq_true rfl, Nat.le_of_ble_eq_true rfl, Nat.le_of_ble_eq_true rfl, Nat.le_of_ble_eq_true rfl⟩ rfl (c_Land_hasCell hn25) ?_
    rintro v1 w9 ⟨hw9, ⟨hv1, hx⟩ | ⟨hv1, hx⟩⟩
    · skip
      rw [hv1, hw9]
      clear hv1 hw9 v1 w9
      dsimp only [Option.toList, List.cons_append, List.nil_append, List.append_nil]
      refine wp_if_ne (pc' := 22) (pt := 24) rfl rfl rfl (fun q_2 => ?_) (fun q_2 => absurd (by decide) q_2)
      refine wp_aload_n (pc' := 25) rfl rfl rfl (by decide) ?_
      refine wp_getR (r' := 3) (ci := 9) (k0 := 2) (pc' := 28) rfl rfl (by decide) (by first | assumption | rfl) (hT.get 2 rfl) ?_
      refine wp_getR (r' := 5) (ci := 3) (k0 := 8) (pc' := 31) rfl rfl (by decide) (by first | assumption | rfl) (hT.get 24 rfl) ?_
      refine wp_iload_n (pc' := 32) rfl rfl rfl ?_
      refine wp_iaload (pc' := 33) rfl rfl (by first | assumption | rfl) (by omega) ?_
      refine wp_istore_n (pc' := 34) rfl rfl (Nat.le_of_ble_eq_true rfl) rfl ?_
      dsimp only [lset, lset2, List.set, List.getElem?_cons_zero, List.getElem?_cons_succ]
      refine wp_iload_n (pc' := 35) rfl rfl rfl ?_
      refine wp_iload_n (pc' := 36) rfl rfl rfl ?_
      refine wp_icmp_ne (pc' := 39) (pt := 42) rfl rfl rfl (fun q_3 => ?_) (fun q_3 => ?_)
      · skip
        refine wp_aload_n (pc' := 43) rfl rfl rfl (by decide) ?_
        refine wp_getR (r' := 3) (ci := 9) (k0 := 2) (pc' := 46) rfl rfl (by decide) (by first | assumption | rfl) (hT.get 2 rfl) ?_
        refine wp_getI (ci := 3) (k0 := 6) (pc' := 49) rfl rfl (by decide) (by first | assumption | rfl) ?_
        refine wp_bipush (a := 40) (pc' := 51) rfl rfl rfl ?_
        refine wp_icmp_lt (pc' := 54) (pt := 57) rfl rfl rfl (fun q_4 => ?_) (fun q_4 => ?_)
        · skip
          refine wp_aload_n (pc' := 58) rfl rfl rfl (by decide) ?_
          refine wp_getR (r' := 3) (ci := 9) (k0 := 2) (pc' := 61) rfl rfl (by decide) (by first | assumption | rfl) (hT.get 2 rfl) ?_
          refine wp_iload_n (pc' := 62) rfl rfl rfl ?_
          refine wp_iload_n (pc' := 63) rfl rfl rfl ?_
          refine wp_call (pc' := 66) rfl rfl rfl rfl rfl ⟨Nat.le_of_ble_eq_true rfl, Nat.le_of_ble_eq_true rfl, Nat.le_of_ble_eq_true rfl, Nat.le_of_ble_eq_true rfl, Nat.le_of_ble_eq_true rfl⟩ rfl (c_Land_moveHouse hT (by omega) ho (by omega)) ?_
          rintro v1 w1 ⟨hv1, hS1, hX⟩
          rw [hv1]
          clear hv1 v1
          have er : ∀ q : Int, 100 ≤ q → w1 q = w q := fun q hq => hS1.cell q (by simp) (by simp [HQ]; omega)
          have f10 : w1 100 10 = w 3 2 := by rw [er 100 (by decide), b10]
          have f23 : w1 100 23 = w 3 6 := by rw [er 100 (by decide), m23]
          have hT : Stc w1 := hT.sameF (L := [5, 7, 8, 9, 10, 11]) (F := [(3, 6)]) (hS1.mono (fun r hr => absurd hr (by simp)) (fun q hq => by simp [HQ] at hq; rcases hq with rfl | rfl | rfl | rfl | rfl | rfl | rfl <;> simp)) (by decide)
          dsimp only [Option.toList, List.cons_append, List.nil_append, List.append_nil]
          refine wp_iload_n (pc' := 67) rfl rfl rfl ?_
          refine wp_ret rfl rfl rfl ?_
          refine ⟨_, rfl, ?_, ?_⟩
          · exact hS1.cell (-2) (by decide) (by simp [HQ])
          have e109 : w1 109 (3 + i) = w 5 i := by rw [er 109 (by decide), hh5]
          have e10p : w1 100 11 * w1 100 12 = w 3 0 * w 3 1 := by rw [er 100 (by decide), hmm]
          refine wp_aload_n (pc' := 1) rfl rfl rfl (by decide) ?_
          refine wp_iload_n (pc' := 2) rfl rfl rfl ?_
          refine wp_call (pc' := 5) rfl rfl rfl rfl rfl ⟨Nat.le_of_ble_eq_true rfl, Nat.le_of_ble_eq_true rfl, Nat.le_of_ble_eq_true rfl, Nat.le_of_ble_eq_true rfl, Nat.le_of_ble_eq_true rfl⟩ rfl (c_Mod_isOne (by rw [er 100 (by decide)]; omega)) ?_
          rintro v1 w9 ⟨hw9, ⟨hv1, ho2⟩ | ⟨hv1, ho2⟩⟩
          · skip
            rw [hv1, hw9]
            clear hv1 hw9 v1 w9
            dsimp only [Option.toList, List.cons_append, List.nil_append, List.append_nil]
            refine wp_if_eq (pc' := 8) (pt := 16) rfl rfl rfl (fun q_55 => absurd q_55 (by decide)) (fun q_55 => ?_)
            refine wp_aload_n (pc' := 9) rfl rfl rfl (by decide) ?_
            refine wp_iload_n (pc' := 10) rfl rfl rfl ?_
            refine wp_call (pc' := 13) rfl rfl rfl rfl rfl ⟨Nat.le_of_ble_eq_true rfl, Nat.le_of_ble_eq_true rfl, Nat.le_of_ble_eq_true rfl, Nat.le_of_ble_eq_true rfl, Nat.le_of_ble_eq_true rfl⟩ rfl (c_Mod_isCell (by rw [er 100 (by decide)]; omega)) ?_
            rintro v1 w9 ⟨hw9, ⟨hv1, hx2⟩ | ⟨hv1, hx2⟩⟩
            · skip
              rw [hv1, hw9]
              clear hv1 hw9 v1 w9
              dsimp only [Option.toList, List.cons_append, List.nil_append, List.append_nil]
              refine wp_if_ne (pc' := 16) (pt := 18) rfl rfl rfl (fun q_56 => ?_) (fun q_56 => absurd (by decide) q_56)
              refine wp_aload_n (pc' := 19) rfl rfl rfl (by decide) ?_
              refine wp_getR (r' := 109) (ci := 10) (k0 := 15) (pc' := 22) rfl rfl (by decide) (by first | assumption | rfl) (hT.get 107 rfl) ?_
              refine wp_iconst (a := 3) (pc' := 23) rfl rfl rfl ?_
              refine wp_iload_n (pc' := 24) rfl rfl rfl ?_
              refine wp_iadd (pc' := 25) rfl rfl (by first | exact w32_id (by omega) (by omega) | rfl) ?_
              refine wp_iaload (pc' := 26) rfl rfl (by first | assumption | rfl) (by omega) ?_
              refine wp_istore_n (pc' := 27) rfl rfl (Nat.le_of_ble_eq_true rfl) rfl ?_
              dsimp only [lset, lset2, List.set, List.getElem?_cons_zero, List.getElem?_cons_succ]
              refine wp_iload_n (pc' := 28) rfl rfl rfl ?_
              refine wp_iload_n (pc' := 29) rfl rfl rfl ?_
              refine wp_icmp_ne (pc' := 32) (pt := 35) rfl rfl rfl (fun q_57 => ?_) (fun q_57 => ?_)
              · skip
                refine wp_aload_n (pc' := 36) rfl rfl rfl (by decide) ?_
                refine wp_getI (ci := 10) (k0 := 23) (pc' := 39) rfl rfl (by decide) (by first | assumption | rfl) ?_
                refine wp_bipush (a := 40) (pc' := 41) rfl rfl rfl ?_
                refine wp_icmp_ne (pc' := 44) (pt := 47) rfl rfl rfl (fun q_58 => ?_) (fun q_58 => ?_)
                · skip
                  refine wp_aload_n (pc' := 48) rfl rfl rfl (by decide) ?_
                  refine wp_call (pc' := 51) rfl rfl rfl rfl rfl ⟨Nat.le_of_ble_eq_true rfl, Nat.le_of_ble_eq_true rfl, Nat.le_of_ble_eq_true rfl, Nat.le_of_ble_eq_true rfl, Nat.le_of_ble_eq_true rfl⟩ rfl (c_Mod_remember hT (by omega)) ?_
                  rintro v1 w2 ⟨hv1, hS2, hg2, ho2, h23⟩
                  rw [hv1]
                  clear hv1 v1
                  have hT : Stc w2 := hT.sameF hS2 (by decide)
                  dsimp only [Option.toList, List.cons_append, List.nil_append, List.append_nil]
                  refine wp_aload_n (pc' := 52) rfl rfl rfl (by decide) ?_
                  refine wp_getR (r' := 109) (ci := 10) (k0 := 15) (pc' := 55) rfl rfl (by decide) (by first | assumption | rfl) (hT.get 107 rfl) ?_
                  refine wp_iconst (a := 3) (pc' := 56) rfl rfl rfl ?_
                  refine wp_iload_n (pc' := 57) rfl rfl rfl ?_
                  refine wp_iadd (pc' := 58) rfl rfl (by first | exact w32_id (by omega) (by omega) | rfl) ?_
                  refine wp_iload_n (pc' := 59) rfl rfl rfl ?_
                  refine wp_iastore (pc' := 60) rfl rfl (by first | assumption | rfl) (by omega) ?_
                  refine wp_iload_n (pc' := 61) rfl rfl rfl ?_
                  refine wp_ret rfl rfl rfl ?_
                  first
                  | (exfalso; omega)
                  | exact ⟨rfl, rfl, hI⟩
                  | (have hed := house_end hI ho hx (by omega) hS1 hX hS2 hg2 ho2 h23
                     exact ⟨by rw [er 109 (by decide), hh5], hed.1, hed.2⟩)
                · skip
                  refine wp_bipush (a := -2) (pc' := 46) rfl rfl rfl ?_
                  refine wp_ret rfl rfl rfl ?_
                  first
                  | (exfalso; omega)
                  | exact ⟨rfl, rfl, hI⟩
                  | (have hed := house_end hI ho hx (by omega) hS1 hX hS2 hg2 ho2 h23
                     exact ⟨by rw [er 109 (by decide), hh5], hed.1, hed.2⟩)
              · skip
                refine wp_bipush (a := -4) (pc' := 34) rfl rfl rfl ?_
                refine wp_ret rfl rfl rfl ?_
                first
                | (exfalso; omega)
                | exact ⟨rfl, rfl, hI⟩
                | (have hed := house_end hI ho hx (by omega) hS1 hX hS2 hg2 ho2 h23
                   exact ⟨by rw [er 109 (by decide), hh5], hed.1, hed.2⟩)
            · skip
              rw [hv1, hw9]
              clear hv1 hw9 v1 w9
              dsimp only [Option.toList, List.cons_append, List.nil_append, List.append_nil]
              refine wp_if_ne (pc' := 16) (pt := 18) rfl rfl rfl (fun q_59 => absurd q_59 (by decide)) (fun q_59 => ?_)
              refine wp_iconst (a := -1) (pc' := 17) rfl rfl rfl ?_
              refine wp_ret rfl rfl rfl ?_
              first
              | (exfalso; omega)
              | exact ⟨rfl, rfl, hI⟩
              | (have hed := house_end hI ho hx (by omega) hS1 hX hS2 hg2 ho2 h23
                 exact ⟨by rw [er 109 (by decide), hh5], hed.1, hed.2⟩)
          · skip
            rw [hv1, hw9]
            clear hv1 hw9 v1 w9
            dsimp only [Option.toList, List.cons_append, List.nil_append, List.append_nil]
            refine wp_if_eq (pc' := 8) (pt := 16) rfl rfl rfl (fun q_60 => ?_) (fun q_60 => absurd (by decide) q_60)
            refine wp_iconst (a := -1) (pc' := 17) rfl rfl rfl ?_
            refine wp_ret rfl rfl rfl ?_
            first
            | (exfalso; omega)
            | exact ⟨rfl, rfl, hI⟩
            | (have hed := house_end hI ho hx (by omega) hS1 hX hS2 hg2 ho2 h23
               exact ⟨by rw [er 109 (by decide), hh5], hed.1, hed.2⟩)
        · skip
          refine wp_bipush (a := -2) (pc' := 56) rfl rfl rfl ?_
          refine wp_ret rfl rfl rfl ?_
          refine ⟨_, rfl, ?_, ?_⟩
          · rfl
          refine wp_aload_n (pc' := 1) rfl rfl rfl (by decide) ?_
          refine wp_iload_n (pc' := 2) rfl rfl rfl ?_
          refine wp_call (pc' := 5) rfl rfl rfl rfl rfl ⟨Nat.le_of_ble_eq_true rfl, Nat.le_of_ble_eq_true rfl, Nat.le_of_ble_eq_true rfl, Nat.le_of_ble_eq_true rfl, Nat.le_of_ble_eq_true rfl⟩ rfl (c_Mod_isOne (by omega)) ?_
          rintro v1 w9 ⟨hw9, ⟨hv1, ho2⟩ | ⟨hv1, ho2⟩⟩
          · skip
            rw [hv1, hw9]
            clear hv1 hw9 v1 w9
            dsimp only [Option.toList, List.cons_append, List.nil_append, List.append_nil]
            refine wp_if_eq (pc' := 8) (pt := 16) rfl rfl rfl (fun q_111 => absurd q_111 (by decide)) (fun q_111 => ?_)
            refine wp_aload_n (pc' := 9) rfl rfl rfl (by decide) ?_
            refine wp_iload_n (pc' := 10) rfl rfl rfl ?_
            refine wp_call (pc' := 13) rfl rfl rfl rfl rfl ⟨Nat.le_of_ble_eq_true rfl, Nat.le_of_ble_eq_true rfl, Nat.le_of_ble_eq_true rfl, Nat.le_of_ble_eq_true rfl, Nat.le_of_ble_eq_true rfl⟩ rfl (c_Mod_isCell (by omega)) ?_
            rintro v1 w9 ⟨hw9, ⟨hv1, hx2⟩ | ⟨hv1, hx2⟩⟩
            · skip
              rw [hv1, hw9]
              clear hv1 hw9 v1 w9
              dsimp only [Option.toList, List.cons_append, List.nil_append, List.append_nil]
              refine wp_if_ne (pc' := 16) (pt := 18) rfl rfl rfl (fun q_112 => ?_) (fun q_112 => absurd (by decide) q_112)
              refine wp_aload_n (pc' := 19) rfl rfl rfl (by decide) ?_
              refine wp_getR (r' := 109) (ci := 10) (k0 := 15) (pc' := 22) rfl rfl (by decide) (by first | assumption | rfl) (hT.get 107 rfl) ?_
              refine wp_iconst (a := 3) (pc' := 23) rfl rfl rfl ?_
              refine wp_iload_n (pc' := 24) rfl rfl rfl ?_
              refine wp_iadd (pc' := 25) rfl rfl (by first | exact w32_id (by omega) (by omega) | rfl) ?_
              refine wp_iaload (pc' := 26) rfl rfl (by first | assumption | rfl) (by omega) ?_
              refine wp_istore_n (pc' := 27) rfl rfl (Nat.le_of_ble_eq_true rfl) rfl ?_
              dsimp only [lset, lset2, List.set, List.getElem?_cons_zero, List.getElem?_cons_succ]
              refine wp_iload_n (pc' := 28) rfl rfl rfl ?_
              refine wp_iload_n (pc' := 29) rfl rfl rfl ?_
              refine wp_icmp_ne (pc' := 32) (pt := 35) rfl rfl rfl (fun q_113 => ?_) (fun q_113 => ?_)
              · skip
                refine wp_aload_n (pc' := 36) rfl rfl rfl (by decide) ?_
                refine wp_getI (ci := 10) (k0 := 23) (pc' := 39) rfl rfl (by decide) (by first | assumption | rfl) ?_
                refine wp_bipush (a := 40) (pc' := 41) rfl rfl rfl ?_
                refine wp_icmp_ne (pc' := 44) (pt := 47) rfl rfl rfl (fun q_114 => ?_) (fun q_114 => ?_)
                · skip
                  exfalso; omega
                · skip
                  refine wp_bipush (a := -2) (pc' := 46) rfl rfl rfl ?_
                  refine wp_ret rfl rfl rfl ?_
                  first
                  | (exfalso; omega)
                  | exact ⟨rfl, rfl, hI⟩
                  | (have hed := house_end hI ho hx (by omega) hS1 hX hS2 hg2 ho2 h23
                     exact ⟨by rw [er 109 (by decide), hh5], hed.1, hed.2⟩)
              · skip
                refine wp_bipush (a := -4) (pc' := 34) rfl rfl rfl ?_
                refine wp_ret rfl rfl rfl ?_
                first
                | (exfalso; omega)
                | exact ⟨rfl, rfl, hI⟩
                | (have hed := house_end hI ho hx (by omega) hS1 hX hS2 hg2 ho2 h23
                   exact ⟨by rw [er 109 (by decide), hh5], hed.1, hed.2⟩)
            · skip
              rw [hv1, hw9]
              clear hv1 hw9 v1 w9
              dsimp only [Option.toList, List.cons_append, List.nil_append, List.append_nil]
              refine wp_if_ne (pc' := 16) (pt := 18) rfl rfl rfl (fun q_115 => absurd q_115 (by decide)) (fun q_115 => ?_)
              refine wp_iconst (a := -1) (pc' := 17) rfl rfl rfl ?_
              refine wp_ret rfl rfl rfl ?_
              first
              | (exfalso; omega)
              | exact ⟨rfl, rfl, hI⟩
              | (have hed := house_end hI ho hx (by omega) hS1 hX hS2 hg2 ho2 h23
                 exact ⟨by rw [er 109 (by decide), hh5], hed.1, hed.2⟩)
          · skip
            rw [hv1, hw9]
            clear hv1 hw9 v1 w9
            dsimp only [Option.toList, List.cons_append, List.nil_append, List.append_nil]
            refine wp_if_eq (pc' := 8) (pt := 16) rfl rfl rfl (fun q_116 => ?_) (fun q_116 => absurd (by decide) q_116)
            refine wp_iconst (a := -1) (pc' := 17) rfl rfl rfl ?_
            refine wp_ret rfl rfl rfl ?_
            first
            | (exfalso; omega)
            | exact ⟨rfl, rfl, hI⟩
            | (have hed := house_end hI ho hx (by omega) hS1 hX hS2 hg2 ho2 h23
               exact ⟨by rw [er 109 (by decide), hh5], hed.1, hed.2⟩)
      · skip
        refine wp_bipush (a := -4) (pc' := 41) rfl rfl rfl ?_
        refine wp_ret rfl rfl rfl ?_
        refine ⟨_, rfl, ?_, ?_⟩
        · rfl
        refine wp_aload_n (pc' := 1) rfl rfl rfl (by decide) ?_
        refine wp_iload_n (pc' := 2) rfl rfl rfl ?_
        refine wp_call (pc' := 5) rfl rfl rfl rfl rfl ⟨Nat.le_of_ble_eq_true rfl, Nat.le_of_ble_eq_true rfl, Nat.le_of_ble_eq_true rfl, Nat.le_of_ble_eq_true rfl, Nat.le_of_ble_eq_true rfl⟩ rfl (c_Mod_isOne (by omega)) ?_
        rintro v1 w9 ⟨hw9, ⟨hv1, ho2⟩ | ⟨hv1, ho2⟩⟩
        · skip
          rw [hv1, hw9]
          clear hv1 hw9 v1 w9
          dsimp only [Option.toList, List.cons_append, List.nil_append, List.append_nil]
          refine wp_if_eq (pc' := 8) (pt := 16) rfl rfl rfl (fun q_167 => absurd q_167 (by decide)) (fun q_167 => ?_)
          refine wp_aload_n (pc' := 9) rfl rfl rfl (by decide) ?_
          refine wp_iload_n (pc' := 10) rfl rfl rfl ?_
          refine wp_call (pc' := 13) rfl rfl rfl rfl rfl ⟨Nat.le_of_ble_eq_true rfl, Nat.le_of_ble_eq_true rfl, Nat.le_of_ble_eq_true rfl, Nat.le_of_ble_eq_true rfl, Nat.le_of_ble_eq_true rfl⟩ rfl (c_Mod_isCell (by omega)) ?_
          rintro v1 w9 ⟨hw9, ⟨hv1, hx2⟩ | ⟨hv1, hx2⟩⟩
          · skip
            rw [hv1, hw9]
            clear hv1 hw9 v1 w9
            dsimp only [Option.toList, List.cons_append, List.nil_append, List.append_nil]
            refine wp_if_ne (pc' := 16) (pt := 18) rfl rfl rfl (fun q_168 => ?_) (fun q_168 => absurd (by decide) q_168)
            refine wp_aload_n (pc' := 19) rfl rfl rfl (by decide) ?_
            refine wp_getR (r' := 109) (ci := 10) (k0 := 15) (pc' := 22) rfl rfl (by decide) (by first | assumption | rfl) (hT.get 107 rfl) ?_
            refine wp_iconst (a := 3) (pc' := 23) rfl rfl rfl ?_
            refine wp_iload_n (pc' := 24) rfl rfl rfl ?_
            refine wp_iadd (pc' := 25) rfl rfl (by first | exact w32_id (by omega) (by omega) | rfl) ?_
            refine wp_iaload (pc' := 26) rfl rfl (by first | assumption | rfl) (by omega) ?_
            refine wp_istore_n (pc' := 27) rfl rfl (Nat.le_of_ble_eq_true rfl) rfl ?_
            dsimp only [lset, lset2, List.set, List.getElem?_cons_zero, List.getElem?_cons_succ]
            refine wp_iload_n (pc' := 28) rfl rfl rfl ?_
            refine wp_iload_n (pc' := 29) rfl rfl rfl ?_
            refine wp_icmp_ne (pc' := 32) (pt := 35) rfl rfl rfl (fun q_169 => ?_) (fun q_169 => ?_)
            · skip
              refine wp_aload_n (pc' := 36) rfl rfl rfl (by decide) ?_
              refine wp_getI (ci := 10) (k0 := 23) (pc' := 39) rfl rfl (by decide) (by first | assumption | rfl) ?_
              refine wp_bipush (a := 40) (pc' := 41) rfl rfl rfl ?_
              refine wp_icmp_ne (pc' := 44) (pt := 47) rfl rfl rfl (fun q_170 => ?_) (fun q_170 => ?_)
              · skip
                exfalso; omega
              · skip
                refine wp_bipush (a := -2) (pc' := 46) rfl rfl rfl ?_
                refine wp_ret rfl rfl rfl ?_
                first
                | (exfalso; omega)
                | exact ⟨rfl, rfl, hI⟩
                | (have hed := house_end hI ho hx (by omega) hS1 hX hS2 hg2 ho2 h23
                   exact ⟨by rw [er 109 (by decide), hh5], hed.1, hed.2⟩)
            · skip
              refine wp_bipush (a := -4) (pc' := 34) rfl rfl rfl ?_
              refine wp_ret rfl rfl rfl ?_
              first
              | (exfalso; omega)
              | exact ⟨rfl, rfl, hI⟩
              | (have hed := house_end hI ho hx (by omega) hS1 hX hS2 hg2 ho2 h23
                 exact ⟨by rw [er 109 (by decide), hh5], hed.1, hed.2⟩)
          · skip
            rw [hv1, hw9]
            clear hv1 hw9 v1 w9
            dsimp only [Option.toList, List.cons_append, List.nil_append, List.append_nil]
            refine wp_if_ne (pc' := 16) (pt := 18) rfl rfl rfl (fun q_171 => absurd q_171 (by decide)) (fun q_171 => ?_)
            refine wp_iconst (a := -1) (pc' := 17) rfl rfl rfl ?_
            refine wp_ret rfl rfl rfl ?_
            first
            | (exfalso; omega)
            | exact ⟨rfl, rfl, hI⟩
            | (have hed := house_end hI ho hx (by omega) hS1 hX hS2 hg2 ho2 h23
               exact ⟨by rw [er 109 (by decide), hh5], hed.1, hed.2⟩)
        · skip
          rw [hv1, hw9]
          clear hv1 hw9 v1 w9
          dsimp only [Option.toList, List.cons_append, List.nil_append, List.append_nil]
          refine wp_if_eq (pc' := 8) (pt := 16) rfl rfl rfl (fun q_172 => ?_) (fun q_172 => absurd (by decide) q_172)
          refine wp_iconst (a := -1) (pc' := 17) rfl rfl rfl ?_
          refine wp_ret rfl rfl rfl ?_
          first
          | (exfalso; omega)
          | exact ⟨rfl, rfl, hI⟩
          | (have hed := house_end hI ho hx (by omega) hS1 hX hS2 hg2 ho2 h23
             exact ⟨by rw [er 109 (by decide), hh5], hed.1, hed.2⟩)
    · skip
      rw [hv1, hw9]
      clear hv1 hw9 v1 w9
      dsimp only [Option.toList, List.cons_append, List.nil_append, List.append_nil]
      refine wp_if_ne (pc' := 22) (pt := 24) rfl rfl rfl (fun q_173 => absurd q_173 (by decide)) (fun q_173 => ?_)
      refine wp_iconst (a := -1) (pc' := 23) rfl rfl rfl ?_
      refine wp_ret rfl rfl rfl ?_
      refine ⟨_, rfl, ?_, ?_⟩
      · rfl
      refine wp_aload_n (pc' := 1) rfl rfl rfl (by decide) ?_
      refine wp_iload_n (pc' := 2) rfl rfl rfl ?_
      refine wp_call (pc' := 5) rfl rfl rfl rfl rfl ⟨Nat.le_of_ble_eq_true rfl, Nat.le_of_ble_eq_true rfl, Nat.le_of_ble_eq_true rfl, Nat.le_of_ble_eq_true rfl, Nat.le_of_ble_eq_true rfl⟩ rfl (c_Mod_isOne (by omega)) ?_
      rintro v1 w9 ⟨hw9, ⟨hv1, ho2⟩ | ⟨hv1, ho2⟩⟩
      · skip
        rw [hv1, hw9]
        clear hv1 hw9 v1 w9
        dsimp only [Option.toList, List.cons_append, List.nil_append, List.append_nil]
        refine wp_if_eq (pc' := 8) (pt := 16) rfl rfl rfl (fun q_224 => absurd q_224 (by decide)) (fun q_224 => ?_)
        refine wp_aload_n (pc' := 9) rfl rfl rfl (by decide) ?_
        refine wp_iload_n (pc' := 10) rfl rfl rfl ?_
        refine wp_call (pc' := 13) rfl rfl rfl rfl rfl ⟨Nat.le_of_ble_eq_true rfl, Nat.le_of_ble_eq_true rfl, Nat.le_of_ble_eq_true rfl, Nat.le_of_ble_eq_true rfl, Nat.le_of_ble_eq_true rfl⟩ rfl (c_Mod_isCell (by omega)) ?_
        rintro v1 w9 ⟨hw9, ⟨hv1, hx2⟩ | ⟨hv1, hx2⟩⟩
        · skip
          rw [hv1, hw9]
          clear hv1 hw9 v1 w9
          dsimp only [Option.toList, List.cons_append, List.nil_append, List.append_nil]
          refine wp_if_ne (pc' := 16) (pt := 18) rfl rfl rfl (fun q_225 => ?_) (fun q_225 => absurd (by decide) q_225)
          refine wp_aload_n (pc' := 19) rfl rfl rfl (by decide) ?_
          refine wp_getR (r' := 109) (ci := 10) (k0 := 15) (pc' := 22) rfl rfl (by decide) (by first | assumption | rfl) (hT.get 107 rfl) ?_
          refine wp_iconst (a := 3) (pc' := 23) rfl rfl rfl ?_
          refine wp_iload_n (pc' := 24) rfl rfl rfl ?_
          refine wp_iadd (pc' := 25) rfl rfl (by first | exact w32_id (by omega) (by omega) | rfl) ?_
          refine wp_iaload (pc' := 26) rfl rfl (by first | assumption | rfl) (by omega) ?_
          refine wp_istore_n (pc' := 27) rfl rfl (Nat.le_of_ble_eq_true rfl) rfl ?_
          dsimp only [lset, lset2, List.set, List.getElem?_cons_zero, List.getElem?_cons_succ]
          refine wp_iload_n (pc' := 28) rfl rfl rfl ?_
          refine wp_iload_n (pc' := 29) rfl rfl rfl ?_
          refine wp_icmp_ne (pc' := 32) (pt := 35) rfl rfl rfl (fun q_226 => ?_) (fun q_226 => ?_)
          · skip
            refine wp_aload_n (pc' := 36) rfl rfl rfl (by decide) ?_
            refine wp_getI (ci := 10) (k0 := 23) (pc' := 39) rfl rfl (by decide) (by first | assumption | rfl) ?_
            refine wp_bipush (a := 40) (pc' := 41) rfl rfl rfl ?_
            refine wp_icmp_ne (pc' := 44) (pt := 47) rfl rfl rfl (fun q_227 => ?_) (fun q_227 => ?_)
            · skip
              exfalso; omega
            · skip
              refine wp_bipush (a := -2) (pc' := 46) rfl rfl rfl ?_
              refine wp_ret rfl rfl rfl ?_
              first
              | (exfalso; omega)
              | exact ⟨rfl, rfl, hI⟩
              | (have hed := house_end hI ho hx (by omega) hS1 hX hS2 hg2 ho2 h23
                 exact ⟨by rw [er 109 (by decide), hh5], hed.1, hed.2⟩)
          · skip
            refine wp_bipush (a := -4) (pc' := 34) rfl rfl rfl ?_
            refine wp_ret rfl rfl rfl ?_
            first
            | (exfalso; omega)
            | exact ⟨rfl, rfl, hI⟩
            | (have hed := house_end hI ho hx (by omega) hS1 hX hS2 hg2 ho2 h23
               exact ⟨by rw [er 109 (by decide), hh5], hed.1, hed.2⟩)
        · skip
          rw [hv1, hw9]
          clear hv1 hw9 v1 w9
          dsimp only [Option.toList, List.cons_append, List.nil_append, List.append_nil]
          refine wp_if_ne (pc' := 16) (pt := 18) rfl rfl rfl (fun q_228 => absurd q_228 (by decide)) (fun q_228 => ?_)
          refine wp_iconst (a := -1) (pc' := 17) rfl rfl rfl ?_
          refine wp_ret rfl rfl rfl ?_
          first
          | (exfalso; omega)
          | exact ⟨rfl, rfl, hI⟩
          | (have hed := house_end hI ho hx (by omega) hS1 hX hS2 hg2 ho2 h23
             exact ⟨by rw [er 109 (by decide), hh5], hed.1, hed.2⟩)
      · skip
        rw [hv1, hw9]
        clear hv1 hw9 v1 w9
        dsimp only [Option.toList, List.cons_append, List.nil_append, List.append_nil]
        refine wp_if_eq (pc' := 8) (pt := 16) rfl rfl rfl (fun q_229 => ?_) (fun q_229 => absurd (by decide) q_229)
        refine wp_iconst (a := -1) (pc' := 17) rfl rfl rfl ?_
        refine wp_ret rfl rfl rfl ?_
        first
        | (exfalso; omega)
        | exact ⟨rfl, rfl, hI⟩
        | (have hed := house_end hI ho hx (by omega) hS1 hX hS2 hg2 ho2 h23
           exact ⟨by rw [er 109 (by decide), hh5], hed.1, hed.2⟩)
  · skip
    rw [hv1, hw9]
    clear hv1 hw9 v1 w9
    dsimp only [Option.toList, List.cons_append, List.nil_append, List.append_nil]
    refine wp_if_eq (pc' := 11) (pt := 22) rfl rfl rfl (fun q_230 => ?_) (fun q_230 => absurd (by decide) q_230)
    refine wp_iconst (a := -1) (pc' := 23) rfl rfl rfl ?_
    refine wp_ret rfl rfl rfl ?_
    refine ⟨_, rfl, ?_, ?_⟩
    · rfl
    refine wp_aload_n (pc' := 1) rfl rfl rfl (by decide) ?_
    refine wp_iload_n (pc' := 2) rfl rfl rfl ?_
    refine wp_call (pc' := 5) rfl rfl rfl rfl rfl ⟨Nat.le_of_ble_eq_true rfl, Nat.le_of_ble_eq_true rfl, Nat.le_of_ble_eq_true rfl, Nat.le_of_ble_eq_true rfl, Nat.le_of_ble_eq_true rfl⟩ rfl (c_Mod_isOne (by omega)) ?_
    rintro v1 w9 ⟨hw9, ⟨hv1, ho2⟩ | ⟨hv1, ho2⟩⟩
    · skip
      rw [hv1, hw9]
      clear hv1 hw9 v1 w9
      dsimp only [Option.toList, List.cons_append, List.nil_append, List.append_nil]
      refine wp_if_eq (pc' := 8) (pt := 16) rfl rfl rfl (fun q_281 => absurd q_281 (by decide)) (fun q_281 => ?_)
      refine wp_aload_n (pc' := 9) rfl rfl rfl (by decide) ?_
      refine wp_iload_n (pc' := 10) rfl rfl rfl ?_
      refine wp_call (pc' := 13) rfl rfl rfl rfl rfl ⟨Nat.le_of_ble_eq_true rfl, Nat.le_of_ble_eq_true rfl, Nat.le_of_ble_eq_true rfl, Nat.le_of_ble_eq_true rfl, Nat.le_of_ble_eq_true rfl⟩ rfl (c_Mod_isCell (by omega)) ?_
      rintro v1 w9 ⟨hw9, ⟨hv1, hx2⟩ | ⟨hv1, hx2⟩⟩
      · skip
        rw [hv1, hw9]
        clear hv1 hw9 v1 w9
        dsimp only [Option.toList, List.cons_append, List.nil_append, List.append_nil]
        refine wp_if_ne (pc' := 16) (pt := 18) rfl rfl rfl (fun q_282 => ?_) (fun q_282 => absurd (by decide) q_282)
        refine wp_aload_n (pc' := 19) rfl rfl rfl (by decide) ?_
        refine wp_getR (r' := 109) (ci := 10) (k0 := 15) (pc' := 22) rfl rfl (by decide) (by first | assumption | rfl) (hT.get 107 rfl) ?_
        refine wp_iconst (a := 3) (pc' := 23) rfl rfl rfl ?_
        refine wp_iload_n (pc' := 24) rfl rfl rfl ?_
        refine wp_iadd (pc' := 25) rfl rfl (by first | exact w32_id (by omega) (by omega) | rfl) ?_
        refine wp_iaload (pc' := 26) rfl rfl (by first | assumption | rfl) (by omega) ?_
        refine wp_istore_n (pc' := 27) rfl rfl (Nat.le_of_ble_eq_true rfl) rfl ?_
        dsimp only [lset, lset2, List.set, List.getElem?_cons_zero, List.getElem?_cons_succ]
        refine wp_iload_n (pc' := 28) rfl rfl rfl ?_
        refine wp_iload_n (pc' := 29) rfl rfl rfl ?_
        refine wp_icmp_ne (pc' := 32) (pt := 35) rfl rfl rfl (fun q_283 => ?_) (fun q_283 => ?_)
        · skip
          refine wp_aload_n (pc' := 36) rfl rfl rfl (by decide) ?_
          refine wp_getI (ci := 10) (k0 := 23) (pc' := 39) rfl rfl (by decide) (by first | assumption | rfl) ?_
          refine wp_bipush (a := 40) (pc' := 41) rfl rfl rfl ?_
          refine wp_icmp_ne (pc' := 44) (pt := 47) rfl rfl rfl (fun q_284 => ?_) (fun q_284 => ?_)
          · skip
            exfalso; omega
          · skip
            refine wp_bipush (a := -2) (pc' := 46) rfl rfl rfl ?_
            refine wp_ret rfl rfl rfl ?_
            first
            | (exfalso; omega)
            | exact ⟨rfl, rfl, hI⟩
            | (have hed := house_end hI ho hx (by omega) hS1 hX hS2 hg2 ho2 h23
               exact ⟨by rw [er 109 (by decide), hh5], hed.1, hed.2⟩)
        · skip
          refine wp_bipush (a := -4) (pc' := 34) rfl rfl rfl ?_
          refine wp_ret rfl rfl rfl ?_
          first
          | (exfalso; omega)
          | exact ⟨rfl, rfl, hI⟩
          | (have hed := house_end hI ho hx (by omega) hS1 hX hS2 hg2 ho2 h23
             exact ⟨by rw [er 109 (by decide), hh5], hed.1, hed.2⟩)
      · skip
        rw [hv1, hw9]
        clear hv1 hw9 v1 w9
        dsimp only [Option.toList, List.cons_append, List.nil_append, List.append_nil]
        refine wp_if_ne (pc' := 16) (pt := 18) rfl rfl rfl (fun q_285 => absurd q_285 (by decide)) (fun q_285 => ?_)
        refine wp_iconst (a := -1) (pc' := 17) rfl rfl rfl ?_
        refine wp_ret rfl rfl rfl ?_
        first
        | (exfalso; omega)
        | exact ⟨rfl, rfl, hI⟩
        | (have hed := house_end hI ho hx (by omega) hS1 hX hS2 hg2 ho2 h23
           exact ⟨by rw [er 109 (by decide), hh5], hed.1, hed.2⟩)
    · skip
      rw [hv1, hw9]
      clear hv1 hw9 v1 w9
      dsimp only [Option.toList, List.cons_append, List.nil_append, List.append_nil]
      refine wp_if_eq (pc' := 8) (pt := 16) rfl rfl rfl (fun q_286 => ?_) (fun q_286 => absurd (by decide) q_286)
      refine wp_iconst (a := -1) (pc' := 17) rfl rfl rfl ?_
      refine wp_ret rfl rfl rfl ?_
      first
      | (exfalso; omega)
      | exact ⟨rfl, rfl, hI⟩
      | (have hed := house_end hI ho hx (by omega) hS1 hX hS2 hg2 ho2 h23
         exact ⟨by rw [er 109 (by decide), hh5], hed.1, hed.2⟩)
