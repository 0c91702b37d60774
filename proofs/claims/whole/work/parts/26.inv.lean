/-! WHAT TIES THE TWO: the invariant between the class's cells and the reference's -/
def I32 (x : Int) : Prop := -2147483648 ≤ x ∧ x < 2147483648
/-- findings, what is told -/
def IFd (w : Hp) : Prop := w 0 13 = w 100 0 ∧ (∀ f : Int, 1 ≤ f → f ≤ 5 → w 52 f = w 101 f) ∧ w 50 0 = w 100 3 ∧ w 50 1 = w 100 4 ∧ (∀ j : Int, 0 ≤ j → j < 125 → w 31 j = 0)
def ITo (w : Hp) : Prop := w 0 14 = w 100 2
/-- rows, texts -/
def IRw (w : Hp) : Prop := ∀ r : Int, 0 ≤ r → r < 6 → w (53 + 2 * r) 1 = w 102 r ∧ (-1 ≤ w 102 r ∧ w 102 r ≤ 40) ∧ ∀ j : Int, 0 ≤ j → j < w 102 r → w (54 + 2 * r) j = w 103 (40 * r + j) ∧ I32 (w 103 (40 * r + j))
def ITx (w : Hp) : Prop := ∀ t : Int, 0 ≤ t → t < 4 → w (65 + 2 * t) 1 = w 105 t ∧ (-1 ≤ w 105 t ∧ w 105 t ≤ 60) ∧ ∀ j : Int, 0 ≤ j → j < w 105 t → w (66 + 2 * t) j = w 106 (60 * t + j) ∧ (-128 ≤ w 106 (60 * t + j) ∧ w 106 (60 * t + j) ≤ 127)
/-- a land of the class at o against what the reference holds of it: now N, log G of m deeds -/
def LR (w : Hp) (o : Int) (N G : Int → Int) (m : Int) : Prop :=
  (w o 0 = w 100 11 ∧ w o 1 = w 100 12 ∧ w o 2 = w 100 10 ∧ w o 3 = N 0 ∧ w o 4 = N 1 ∧ w o 5 = N 2 ∧ w o 6 = m) ∧ (0 ≤ m ∧ m ≤ 40) ∧ Cel (w 100 11) (w 100 12) (N 0) ∧ (0 ≤ N 1 ∧ N 1 ≤ 4) ∧ (0 ≤ N 2 ∧ N 2 ≤ m)
  ∧ (∀ i : Int, 0 ≤ i → i < w 100 10 → w (o + 1) i = w 107 i ∧ w (o + 2) i = N (3 + i) ∧ w (o + 3) i = w 108 i ∧ Cel (w 100 11) (w 100 12) (N (3 + i)))
  ∧ ∀ e : Int, 0 ≤ e → e < m → w (o + 4) e = G (9 * e) ∧ w (o + 5) e = G (9 * e + 1) ∧ w (o + 6) e = G (9 * e + 2) ∧ Cel (w 100 11) (w 100 12) (G (9 * e)) ∧ (0 ≤ G (9 * e + 1) ∧ G (9 * e + 1) ≤ 4) ∧ (0 ≤ G (9 * e + 2) ∧ G (9 * e + 2) ≤ e)
    ∧ ∀ i : Int, 0 ≤ i → i < w 100 10 → G (9 * e + 3 + i) = (if w (o + 7) e = i then w (o + 8) e else if e + 1 < m then G (9 * (e + 1) + 3 + i) else N (3 + i)) ∧ Cel (w 100 11) (w 100 12) (G (9 * e + 3 + i))
def ILn (w : Hp) : Prop := (w 3 0 = 0 ∧ w 3 1 = 0 ∧ w 3 2 = 0 ∧ w 3 3 = 0 ∧ w 3 4 = 0 ∧ w 3 5 = 0 ∧ w 3 6 = 0 ∧ w 100 10 = 0 ∧ w 100 11 = 0 ∧ w 100 12 = 0 ∧ w 109 0 = 0 ∧ w 109 1 = 0 ∧ w 109 2 = 0 ∧ w 100 23 = 0) ∨ (MdOK w ∧ LR w 3 (w 109) (w 114) (w 100 23))
def IKp (w : Hp) : Prop := ∀ k : Int, 0 ≤ k → k < 3 → (w 115 k = 0 ∧ w (73 + 9 * k) 0 = 0) ∨ (w 115 k = 1 ∧ MdOK w ∧ LR w (73 + 9 * k) (fun j => w 117 (9 * k + j)) (fun j => w 118 (360 * k + j)) (w 116 k))
def Inv (w : Hp) : Prop := Stc w ∧ ROw w ∧ IFd w ∧ ITo w ∧ IRw w ∧ ITx w ∧ ILn w ∧ IKp w
theorem LR.congr {w w' : Hp} {o : Int} {N G : Int → Int} {m : Int} (h : LR w o N G m) (h1 : ∀ q : Int, o ≤ q → q ≤ o + 8 → w' q = w q) (h2 : w' 100 10 = w 100 10 ∧ w' 100 11 = w 100 11 ∧ w' 100 12 = w 100 12) (h3 : w' 107 = w 107) (h4 : w' 108 = w 108) : LR w' o N G m := by
  unfold LR at h ⊢
  rw [h1 o (by omega) (by omega), h1 (o + 1) (by omega) (by omega), h1 (o + 2) (by omega) (by omega), h1 (o + 3) (by omega) (by omega), h1 (o + 4) (by omega) (by omega), h1 (o + 5) (by omega) (by omega), h1 (o + 6) (by omega) (by omega), h1 (o + 7) (by omega) (by omega), h1 (o + 8) (by omega) (by omega), h2.1, h2.2.1, h2.2.2, h3, h4]
  exact h
/-- the cells of lands on both sides are as they were -/
def LandSame (w w' : Hp) : Prop := (∀ q : Int, 3 ≤ q → q ≤ 11 → w' q = w q) ∧ (∀ q : Int, 73 ≤ q → q ≤ 99 → w' q = w q) ∧ (w' 100 10 = w 100 10 ∧ w' 100 11 = w 100 11 ∧ w' 100 12 = w 100 12) ∧ w' 100 23 = w 100 23 ∧ w' 107 = w 107 ∧ w' 108 = w 108 ∧ w' 109 = w 109 ∧ w' 114 = w 114 ∧ w' 115 = w 115 ∧ w' 116 = w 116 ∧ w' 117 = w 117 ∧ w' 118 = w 118
theorem MdOK.ls {w w' : Hp} (h : MdOK w) (hs : LandSame w w') : MdOK w' := by
  obtain ⟨-, -, h3, -, h5, h6, h7, -⟩ := hs
  unfold MdOK at h ⊢
  rw [h3.1, h3.2.1, h3.2.2, h5, h6, h7]
  exact h
theorem ILn.ls {w w' : Hp} (h : ILn w) (hs : LandSame w w') : ILn w' := by
  obtain ⟨h1, h2, h3, h4, h5, h6, h7, h8, h9, h10, h11, h12⟩ := id hs
  rcases h with h | ⟨ha, hb⟩
  · refine Or.inl ?_
    rw [h1 3 (by omega) (by omega), h3.1, h3.2.1, h3.2.2, h7, h4]
    exact h
  · refine Or.inr ⟨ha.ls hs, ?_⟩
    rw [h7, h8, h4]
    exact hb.congr (fun q a b => h1 q a (by omega)) h3 h5 h6
theorem IKp.ls {w w' : Hp} (h : IKp w) (hs : LandSame w w') : IKp w' := by
  obtain ⟨h1, h2, h3, h4, h5, h6, h7, h8, h9, h10, h11, h12⟩ := id hs
  intro k hk0 hk
  rw [h9, h10, h11, h12, h2 (73 + 9 * k) (by omega) (by omega)]
  rcases h k hk0 hk with h | ⟨ha, hb, hc⟩
  · exact Or.inl h
  · exact Or.inr ⟨ha, hb.ls hs, hc.congr (fun q a b => h2 q (by omega) (by omega)) h3 h5 h6⟩
theorem strip_row {w : Hp} (hT : Stc w) {r : Int} (h0 : 0 ≤ r) (h6 : r < 6) : StripAt w (53 + 2 * r) (54 + 2 * r) 40 ∧ w 1 r = 53 + 2 * r := by
  have : r = 0 ∨ r = 1 ∨ r = 2 ∨ r = 3 ∨ r = 4 ∨ r = 5 := by omega
  rcases this with rfl | rfl | rfl | rfl | rfl | rfl
  · exact ⟨⟨rfl, rfl, hT.get 65 rfl, by decide, by decide, by decide, by decide⟩, hT.get 13 rfl⟩
  · exact ⟨⟨rfl, rfl, hT.get 66 rfl, by decide, by decide, by decide, by decide⟩, hT.get 14 rfl⟩
  · exact ⟨⟨rfl, rfl, hT.get 67 rfl, by decide, by decide, by decide, by decide⟩, hT.get 15 rfl⟩
  · exact ⟨⟨rfl, rfl, hT.get 68 rfl, by decide, by decide, by decide, by decide⟩, hT.get 16 rfl⟩
  · exact ⟨⟨rfl, rfl, hT.get 69 rfl, by decide, by decide, by decide, by decide⟩, hT.get 17 rfl⟩
  · exact ⟨⟨rfl, rfl, hT.get 70 rfl, by decide, by decide, by decide, by decide⟩, hT.get 18 rfl⟩
theorem strip_text {w : Hp} (hT : Stc w) {r : Int} (h0 : 0 ≤ r) (h6 : r < 4) : StripAt w (65 + 2 * r) (66 + 2 * r) 60 ∧ w 2 r = 65 + 2 * r := by
  have : r = 0 ∨ r = 1 ∨ r = 2 ∨ r = 3 := by omega
  rcases this with rfl | rfl | rfl | rfl
  · exact ⟨⟨rfl, rfl, hT.get 71 rfl, by decide, by decide, by decide, by decide⟩, hT.get 19 rfl⟩
  · exact ⟨⟨rfl, rfl, hT.get 72 rfl, by decide, by decide, by decide, by decide⟩, hT.get 20 rfl⟩
  · exact ⟨⟨rfl, rfl, hT.get 73 rfl, by decide, by decide, by decide, by decide⟩, hT.get 21 rfl⟩
  · exact ⟨⟨rfl, rfl, hT.get 74 rfl, by decide, by decide, by decide, by decide⟩, hT.get 22 rfl⟩
/-- a refusal on both sides -/
theorem Inv.refused {w : Hp} (h : Inv w) {f : Int} (hf : 1 ≤ f ∧ f ≤ 5) : Inv (up (up (up (up w 0 13 f) 52 f (w32 (w 52 f + 1))) 100 0 f) 101 f (w32 (w 101 f + 1))) := by
  obtain ⟨h1, h2, h3, h4, h5, h6, h7, h8⟩ := h
  have hs : SameF w (up (up (up (up w 0 13 f) 52 f (w32 (w 52 f + 1))) 100 0 f) 101 f (w32 (w 101 f + 1))) [52, 101] [(0, 13), (100, 0)] := (((((SameF.rf w _ _).put (Or.inr (by decide))).put (Or.inl (by decide))).put (Or.inr (by decide))).put (Or.inl (by decide)))
  have h52 : ∀ j : Int, (up (up (up (up w 0 13 f) 52 f (w32 (w 52 f + 1))) 100 0 f) 101 f (w32 (w 101 f + 1))) 52 j = if j = f then w32 (w 52 f + 1) else w 52 j := fun j => by
    rw [up_ne (by decide), up_ne (by decide)]
    by_cases hj : j = f
    · rw [if_pos hj, hj, up_eq]
    · rw [if_neg hj, up_at hj, up_ne (by decide)]
  have h101 : ∀ j : Int, (up (up (up (up w 0 13 f) 52 f (w32 (w 52 f + 1))) 100 0 f) 101 f (w32 (w 101 f + 1))) 101 j = if j = f then w32 (w 101 f + 1) else w 101 j := fun j => by
    by_cases hj : j = f
    · rw [if_pos hj, hj, up_eq]
    · rw [if_neg hj, up_at hj, up_ne (by decide), up_ne (by decide), up_ne (by decide)]
  have h013 : (up (up (up (up w 0 13 f) 52 f (w32 (w 52 f + 1))) 100 0 f) 101 f (w32 (w 101 f + 1))) 0 13 = f := by rw [up_ne (by decide), up_ne (by decide), up_ne (by decide), up_eq]
  have h1000 : (up (up (up (up w 0 13 f) 52 f (w32 (w 52 f + 1))) 100 0 f) 101 f (w32 (w 101 f + 1))) 100 0 = f := by rw [up_ne (by decide), up_eq]
  generalize (up (up (up (up w 0 13 f) 52 f (w32 (w 52 f + 1))) 100 0 f) 101 f (w32 (w 101 f + 1))) = w' at *
  have hc : ∀ q : Int, q ≠ 0 → q ≠ 52 → q ≠ 100 → q ≠ 101 → w' q = w q := fun q a b c e => hs.cell q (by simp; omega) (fun z hz => by simp at hz; rcases hz with rfl | rfl <;> (dsimp only; omega))
  have hf1 : ∀ k : Int, k ≠ 13 → w' 0 k = w 0 k := fun k hk => hs 0 k (by decide) (by simp; omega)
  have hf2 : ∀ k : Int, k ≠ 0 → w' 100 k = w 100 k := fun k hk => hs 100 k (by decide) (by simp; omega)
  have hls : LandSame w w' := ⟨fun q a b => hc q (by omega) (by omega) (by omega) (by omega), fun q a b => hc q (by omega) (by omega) (by omega) (by omega), ⟨hf2 10 (by decide), hf2 11 (by decide), hf2 12 (by decide)⟩, hf2 23 (by decide), hc 107 (by decide) (by decide) (by decide) (by decide), hc 108 (by decide) (by decide) (by decide) (by decide), hc 109 (by decide) (by decide) (by decide) (by decide), hc 114 (by decide) (by decide) (by decide) (by decide), hc 115 (by decide) (by decide) (by decide) (by decide), hc 116 (by decide) (by decide) (by decide) (by decide), hc 117 (by decide) (by decide) (by decide) (by decide), hc 118 (by decide) (by decide) (by decide) (by decide)⟩
  refine ⟨h1.sameF hs (by decide), ?_, ?_, ?_, ?_, ?_, h7.ls hls, h8.ls hls⟩
  · unfold ROw at h2 ⊢
    rw [hc (-3) (by decide) (by decide) (by decide) (by decide), hc (-4) (by decide) (by decide) (by decide) (by decide), hc (-5) (by decide) (by decide) (by decide) (by decide)]
    exact h2
  · obtain ⟨a1, a2, a3, a4, a5⟩ := h3
    refine ⟨by rw [h013, h1000], fun g hg1 hg5 => ?_, by rw [hc 50 (by decide) (by decide) (by decide) (by decide), hf2 3 (by decide)]; exact a3, by rw [hc 50 (by decide) (by decide) (by decide) (by decide), hf2 4 (by decide)]; exact a4, fun j j0 j1 => by rw [hc 31 (by decide) (by decide) (by decide) (by decide)]; exact a5 j j0 j1⟩
    rw [h52, h101, a2 f hf.1 hf.2, a2 g hg1 hg5]
  · unfold ITo at h4 ⊢
    rw [hf1 14 (by decide), hf2 2 (by decide)]
    exact h4
  · intro r hr0 hr6
    rw [hc (53 + 2 * r) (by omega) (by omega) (by omega) (by omega), hc (54 + 2 * r) (by omega) (by omega) (by omega) (by omega), hc 102 (by decide) (by decide) (by decide) (by decide), hc 103 (by decide) (by decide) (by decide) (by decide)]
    exact h5 r hr0 hr6
  · intro r hr0 hr6
    rw [hc (65 + 2 * r) (by omega) (by omega) (by omega) (by omega), hc (66 + 2 * r) (by omega) (by omega) (by omega) (by omega), hc 105 (by decide) (by decide) (by decide) (by decide), hc 106 (by decide) (by decide) (by decide) (by decide)]
    exact h6 r hr0 hr6
