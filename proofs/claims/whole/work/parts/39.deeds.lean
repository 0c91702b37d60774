/-! deeds: what a further deed does to the tie between the two logs -/
theorem LR.deed {w w' : Hp} {o : Int} {N G N' G' : Int → Int} {m : Int} (h : LR w o N G m) (hm : m < 40)
    (hr : w' 100 10 = w 100 10 ∧ w' 100 11 = w 100 11 ∧ w' 100 12 = w 100 12 ∧ w' 107 = w 107 ∧ w' 108 = w 108)
    (ho : w' o 0 = w o 0 ∧ w' o 1 = w o 1 ∧ w' o 2 = w o 2 ∧ w' o 3 = N' 0 ∧ w' o 4 = N' 1 ∧ w' o 5 = N' 2 ∧ w' o 6 = m + 1)
    (hN : Cel (w 100 11) (w 100 12) (N' 0) ∧ (0 ≤ N' 1 ∧ N' 1 ≤ 4) ∧ (0 ≤ N' 2 ∧ N' 2 ≤ m + 1))
    (hh : ∀ i : Int, 0 ≤ i → i < w 100 10 → w' (o + 1) i = w (o + 1) i ∧ w' (o + 2) i = N' (3 + i) ∧ w' (o + 3) i = w (o + 3) i ∧ Cel (w 100 11) (w 100 12) (N' (3 + i)))
    (hl : ∀ q : Int, o + 4 ≤ q → q ≤ o + 8 → ∀ e : Int, 0 ≤ e → e < m → w' q e = w q e)
    (hz : w' (o + 4) m = N 0 ∧ w' (o + 5) m = N 1 ∧ w' (o + 6) m = N 2)
    (hmv : ∀ i : Int, 0 ≤ i → i < w 100 10 → N (3 + i) = if w' (o + 7) m = i then w' (o + 8) m else N' (3 + i))
    (hG : (∀ z : Int, z < 9 * m → G' z = G z) ∧ ∀ k : Int, 0 ≤ k → k < 9 → G' (9 * m + k) = N k) (hn : w 100 10 ≤ 6) : LR w' o N' G' (m + 1) := by
  obtain ⟨⟨a0, a1, a2, a3, a4, a5, a6⟩, am, ac, ab, ay, ah, al⟩ := h
  obtain ⟨r10, r11, r12, r7, r8⟩ := hr
  obtain ⟨p0, p1, p2, p3, p4, p5, p6⟩ := ho
  refine ⟨⟨by rw [p0, r11]; exact a0, by rw [p1, r12]; exact a1, by rw [p2, r10]; exact a2, p3, p4, p5, p6⟩, by omega, by rw [r11, r12]; exact hN.1, hN.2.1, hN.2.2, fun i i0 i1 => ?_, fun e e0 e1 => ?_⟩
  · rw [r10] at i1
    obtain ⟨x1, x2, x3, x4⟩ := hh i i0 i1
    obtain ⟨y1, y2, y3, y4⟩ := ah i i0 i1
    exact ⟨by rw [x1, r7]; exact y1, x2, by rw [x3, r8]; exact y3, by rw [r11, r12]; exact x4⟩
  · by_cases he : e = m
    · subst he
      refine ⟨?_, ?_, ?_, ?_, ?_, ?_, fun i i0 i1 => ?_⟩
      · have := hG.2 0 (by omega) (by omega)
        rw [Int.add_zero] at this
        rw [this]
        exact hz.1
      · rw [hG.2 1 (by omega) (by omega)]
        exact hz.2.1
      · rw [hG.2 2 (by omega) (by omega)]
        exact hz.2.2
      · have := hG.2 0 (by omega) (by omega)
        rw [Int.add_zero] at this
        rw [this, r11, r12]
        exact ac
      · rw [hG.2 1 (by omega) (by omega)]
        exact ab
      · rw [hG.2 2 (by omega) (by omega)]
        exact ay
      · rw [r10] at i1
        have h1 := hG.2 (3 + i) (by omega) (by omega)
        rw [show 9 * e + 3 + i = 9 * e + (3 + i) by omega, h1, if_neg (show ¬ e + 1 < e + 1 by omega), r11, r12]
        exact ⟨hmv i i0 i1, (ah i i0 i1).2.2.2⟩
    · have e2 : e < m := by omega
      obtain ⟨y1, y2, y3, y4, y5, y6, y7⟩ := al e e0 e2
      refine ⟨?_, ?_, ?_, ?_, ?_, ?_, fun i i0 i1 => ?_⟩
      · rw [hl (o + 4) (by omega) (by omega) e e0 e2, hG.1 _ (by omega)]; exact y1
      · rw [hl (o + 5) (by omega) (by omega) e e0 e2, hG.1 _ (by omega)]; exact y2
      · rw [hl (o + 6) (by omega) (by omega) e e0 e2, hG.1 _ (by omega)]; exact y3
      · rw [hG.1 _ (by omega), r11, r12]; exact y4
      · rw [hG.1 _ (by omega)]; exact y5
      · rw [hG.1 _ (by omega)]; exact y6
      · rw [r10] at i1
        obtain ⟨z1, z2⟩ := y7 i i0 i1
        rw [hG.1 _ (by omega), hl (o + 7) (by omega) (by omega) e e0 e2, hl (o + 8) (by omega) (by omega) e e0 e2, if_pos (show e + 1 < m + 1 by omega), r11, r12]
        refine ⟨?_, z2⟩
        rw [z1]
        by_cases hlast : e + 1 < m
        · rw [if_pos hlast, hG.1 _ (by omega)]
        · have hme : e + 1 = m := by omega
          rw [if_neg hlast, hme, show 9 * m + 3 + i = 9 * m + (3 + i) by omega, hG.2 (3 + i) (by omega) (by omega)]
