/-! a run that reads no negative cell does not see what lies there -/
def Ag (w z : Hp) (g : Int → Int → Int) : Prop := (∀ r : Int, 0 ≤ r → w r = z r) ∧ (∀ r : Int, r < 0 → z r (-1) = -1) ∧ (∀ r : Int, r < 0 → w r = g r)
theorem Ag.put {w z : Hp} {g : Int → Int → Int} (h : Ag w z g) {r i x : Int} (hr : 0 ≤ r) : Ag (up w r i x) (up z r i x) g := by
  obtain ⟨h1, h2, h3⟩ := h
  refine ⟨fun q hq => ?_, fun q hq => ?_, fun q hq => ?_⟩
  · funext j
    unfold up
    rw [h1 q hq]
  · rw [up_ne (by omega)]; exact h2 q hq
  · rw [up_ne (by omega)]; exact h3 q hq
theorem Ag.ld {w z : Hp} {g : Int → Int → Int} (h : Ag w z g) {sh : Shp} {ks : List Nat} {ro : List Int} {r i v : Int} (hl : ldArr sh ks ro r i z = some v) : ldArr sh ks ro r i w = some v := by
  unfold ldArr at hl ⊢
  by_cases hr : 0 ≤ r
  · rw [if_pos hr] at hl ⊢
    rw [h.1 r hr]
    exact hl
  · rw [if_neg hr, h.2.1 r (by omega)] at hl
    rw [if_neg (by omega)] at hl
    cases hl
theorem shAt_ge {sh : Shp} {r : Int} {q : Nat × Nat} (h : shAt sh r = some q) : 0 ≤ r := by
  unfold shAt at h
  split at h
  · assumption
  · cases h
theorem stArr_ge {sh : Shp} {ks : List Nat} {r i : Int} (h : stArr sh ks r i = true) : 0 ≤ r := by
  unfold stArr at h
  split at h
  · rename_i k n hs
    exact shAt_ge hs
  · cases h
theorem step1_agree {sh : Shp} {ins : Instr} {len : Nat} {x : Int} {pc : Nat} {ls : PL} {st : List PV} {w z : Hp} {g : Int → Int → Int} (h : Ag w z g) {pc' : Nat} {ls' : PL} {st' : List PV} {z' : Hp} (hs : step1 sh ins len x pc ls st z = some (pc', ls', st', z')) : ∃ w' : Hp, step1 sh ins len x pc ls st w = some (pc', ls', st', w') ∧ Ag w' z' g := by
  cases ins with
  | getfield f =>
    simp only [step1] at hs ⊢
    split at hs
    · split at hs
      · rename_i hsh
        rw [if_pos hsh, h.1 _ (shAt_ge hsh)]
        split at hs
        · rename_i v hv
          cases hs
          exact ⟨w, rfl, h⟩
        · cases hs
      · cases hs
    · cases hs
  | putfield f =>
    simp only [step1] at hs ⊢
    split at hs
    · split at hs
      · rename_i hsh
        rw [if_pos hsh]
        split at hs
        · rename_i v hv
          cases hs
          exact ⟨_, rfl, h.put (shAt_ge hsh)⟩
        · cases hs
      · cases hs
    · cases hs
  | arraylength =>
    simp only [step1] at hs ⊢
    split at hs
    · split at hs
      · rename_i hr
        rw [if_pos hr]
        split at hs
        · rename_i hq
          split at hs
          · rename_i hn
            cases hs
            exact ⟨w, if_pos hn, h⟩
          · cases hs
        · cases hs
      · rename_i hr
        rw [h.2.1 _ (by omega), if_neg (by omega)] at hs
        cases hs
    · cases hs
  | iaload =>
    simp only [step1] at hs ⊢
    split at hs
    · split at hs
      · rename_i v hv
        rw [h.ld hv]
        cases hs
        exact ⟨w, rfl, h⟩
      · cases hs
    · cases hs
  | caload =>
    simp only [step1] at hs ⊢
    split at hs
    · split at hs
      · rename_i v hv
        rw [h.ld hv]
        cases hs
        exact ⟨w, rfl, h⟩
      · cases hs
    · cases hs
  | baload =>
    simp only [step1] at hs ⊢
    split at hs
    · split at hs
      · rename_i v hv
        rw [h.ld hv]
        cases hs
        exact ⟨w, rfl, h⟩
      · cases hs
    · cases hs
  | laload =>
    simp only [step1] at hs ⊢
    split at hs
    · split at hs
      · rename_i v hv
        rw [h.ld hv]
        cases hs
        exact ⟨w, rfl, h⟩
      · cases hs
    · cases hs
  | aaload =>
    simp only [step1] at hs ⊢
    split at hs
    · split at hs
      · rename_i v hv
        rw [h.ld hv]
        cases hs
        exact ⟨w, rfl, h⟩
      · cases hs
    · cases hs
  | iastore =>
    simp only [step1] at hs ⊢
    split at hs
    · split at hs
      · rename_i hst
        cases hs
        exact ⟨_, if_pos hst, h.put (stArr_ge hst)⟩
      · cases hs
    · cases hs
  | lastore =>
    simp only [step1] at hs ⊢
    split at hs
    · split at hs
      · rename_i hst
        cases hs
        exact ⟨_, if_pos hst, h.put (stArr_ge hst)⟩
      · cases hs
    · cases hs
  | bastore =>
    simp only [step1] at hs ⊢
    split at hs
    · split at hs
      · rename_i hst
        cases hs
        exact ⟨_, if_pos hst, h.put (stArr_ge hst)⟩
      · rename_i hn
        rw [if_neg hn]
        split at hs
        · rename_i hst
          cases hs
          exact ⟨_, if_pos hst, h.put (stArr_ge hst.1)⟩
        · cases hs
    · cases hs
  | aastore =>
    simp only [step1] at hs ⊢
    split at hs
    · split at hs
      · rename_i hst
        cases hs
        exact ⟨_, if_pos hst, h.put (stArr_ge hst.1)⟩
      · rename_i hn
        rw [if_neg hn]
        split at hs
        · rename_i hst
          cases hs
          exact ⟨_, if_pos hst, h.put (stArr_ge hst.1)⟩
        · cases hs
    · cases hs
  | invokestatic f =>
    simp only [step1] at hs ⊢
    split at hs
    · rename_i hx
      rw [if_pos hx]
      split at hs
      · split at hs
        · rename_i n0 n1 hq0 hq1
          split at hs
          · rename_i hc
            rw [if_pos hc]
            cases hs
            refine ⟨_, rfl, ?_, ?_, ?_⟩
            · intro q hq
              funext j
              dsimp only
              rw [h.1 q hq, h.1 _ (shAt_ge hq0)]
            · intro q hq
              have := shAt_ge hq1
              dsimp only
              rw [if_neg (by omega)]
              exact h.2.1 q hq
            · intro q hq
              have := shAt_ge hq1
              funext j
              dsimp only
              rw [if_neg (by omega), h.2.2 q hq]
          · cases hs
        · cases hs
      · cases hs
    · rename_i hx
      rw [if_neg hx]
      split at hs
      · rename_i hx3
        rw [if_pos hx3]
        split at hs
        · split at hs
          · rename_i hc
            cases hs
            exact ⟨w, if_pos hc, h⟩
          · cases hs
        · cases hs
      · rename_i hx3
        rw [if_neg hx3]
        split at hs
        · rename_i hx4
          rw [if_pos hx4]
          split at hs
          · split at hs
            · rename_i hc
              cases hs
              exact ⟨w, if_pos hc, h⟩
            · cases hs
          · cases hs
        · rename_i hx4
          rw [if_neg hx4]
          split at hs
          · rename_i hx5
            rw [if_pos hx5]
            split at hs
            · split at hs
              · rename_i hc
                cases hs
                exact ⟨w, if_pos hc, h⟩
              · cases hs
            · cases hs
          · cases hs
  | tableswitch dflt lo hi offs =>
    simp only [step1] at hs ⊢
    split at hs
    · split at hs
      · rename_i hc
        cases hs
        exact ⟨w, if_pos hc, h⟩
      · rename_i hc
        rw [if_neg hc]
        split at hs
        · rename_i o ho
          cases hs
          exact ⟨w, rfl, h⟩
        · cases hs
    · cases hs
  | _ =>
    simp only [step1] at hs ⊢
    first
    | (cases hs; done)
    | (cases hs; exact ⟨w, rfl, h⟩)
    | ((repeat' split at hs) <;> first | (cases hs; done) | (cases hs; exact ⟨w, by simp_all, h⟩))
theorem alloc_agree {sh : Shp} {ins : Instr} {x : Int} {st : List PV} {w z : Hp} {g : Int → Int → Int} (h : Ag w z g) {st' : List PV} {sh' : Shp} {z' : Hp} (hs : allocOf sh ins x st z = some (st', sh', z')) : ∃ w' : Hp, allocOf sh ins x st w = some (st', sh', w') ∧ Ag w' z' g := by
  have hf : ∀ (f : Int → Int), Ag (fill w sh.length f) (fill z sh.length f) g := fun f => by
    refine ⟨fun q hq => ?_, fun q hq => ?_, fun q hq => ?_⟩
    · funext j
      unfold fill
      rw [h.1 q hq]
    · unfold fill
      rw [if_neg (by omega)]; exact h.2.1 q hq
    · funext j
      unfold fill
      rw [if_neg (by omega), h.2.2 q hq]
  cases ins with
  | new f =>
    simp only [allocOf] at hs ⊢
    split at hs
    · rename_i hc
      cases hs
      exact ⟨_, if_pos hc, hf _⟩
    · cases hs
  | newarray t =>
    simp only [allocOf] at hs ⊢
    split at hs
    · split at hs
      · rename_i hc
        rw [if_pos hc]
        cases t <;> first | (cases hs; done) | (cases hs; exact ⟨_, rfl, hf _⟩)
      · cases hs
    · cases hs
  | anewarray f =>
    simp only [allocOf] at hs ⊢
    split at hs
    · split at hs
      · rename_i hc
        cases hs
        exact ⟨_, if_pos hc, hf _⟩
      · cases hs
    · cases hs
  | multianewarray f dd =>
    simp only [allocOf] at hs ⊢
    split at hs
    · split at hs
      · rename_i hc
        cases hs
        refine ⟨_, if_pos hc, ?_, ?_, ?_⟩
        · intro q hq
          funext j
          dsimp only
          rw [h.1 q hq]
        · intro q hq
          dsimp only
          rw [if_neg (by omega), if_neg (by omega)]
          exact h.2.1 q hq
        · intro q hq
          funext j
          dsimp only
          rw [if_neg (by omega), if_neg (by omega), h.2.2 q hq]
      · cases hs
    · cases hs
  | _ => simp only [allocOf] at hs; cases hs
theorem alloc_none {sh : Shp} {ins : Instr} {x : Int} {st : List PV} (w z : Hp) (h : allocOf sh ins x st z = none) : allocOf sh ins x st w = none := by
  cases ins with
  | new f =>
    simp only [allocOf] at h ⊢
    split at h
    · cases h
    · rename_i hc
      rw [if_neg hc]
  | newarray t =>
    simp only [allocOf] at h ⊢
    split at h
    · split at h
      · rename_i hc
        rw [if_pos hc]
        cases t <;> first | rfl | (cases h; done)
      · rename_i hc
        rw [if_neg hc]
    · rfl
  | anewarray f =>
    simp only [allocOf] at h ⊢
    split at h
    · split at h
      · cases h
      · rename_i hc
        rw [if_neg hc]
    · rfl
  | multianewarray f dd =>
    simp only [allocOf] at h ⊢
    split at h
    · split at h
      · cases h
      · rename_i hc
        rw [if_neg hc]
    · rfl
  | _ => simp only [allocOf]
theorem ev_agree : ∀ (n d mi pc : Nat) (ls : PL) (st : List PV) (sh : Shp) (w z : Hp) (g : Int → Int → Int) (v : Option PV) (sh1 : Shp) (z1 : Hp), Ag w z g → ev n d mi pc ls st sh z = some (v, sh1, z1) → ∃ w1 : Hp, ev n d mi pc ls st sh w = some (v, sh1, w1) ∧ Ag w1 z1 g := by
  intro n
  induction n with
  | zero => intro d mi pc ls st sh w z g v sh1 z1 _ h; cases h
  | succ n ih =>
    intro d mi pc ls st sh w z g v sh1 z1 hA h
    rw [ev] at h ⊢
    cases hrow : rowOf mi pc with
    | none => rw [hrow] at h; cases h
    | some row =>
      obtain ⟨pc0, ins, len, x, pos⟩ := row
      simp only [hrow] at h ⊢
      cases hj : callOf ins x with
      | some j =>
        simp only [hj] at h ⊢
        cases d with
        | zero => cases h
        | succ d' =>
          simp only at h ⊢
          split at h
          · rename_i hc
            rw [if_pos hc]
            cases hev : ev n d' j 0 (entryLs j (List.take (mPop j) st).reverse) [] sh z with
            | none => rw [hev] at h; cases h
            | some q =>
              obtain ⟨v2, sh2, z2⟩ := q
              rw [hev] at h
              obtain ⟨w2, hw2, hA2⟩ := ih _ _ _ _ _ _ _ _ _ _ _ _ hA hev
              rw [hw2]
              exact ih _ _ _ _ _ _ _ _ _ _ _ _ hA2 h
          · cases h
      | none =>
        simp only [hj] at h ⊢
        cases hr : retOf mi ins st with
        | some v0 =>
          simp only [hr] at h ⊢
          cases h
          exact ⟨w, rfl, hA⟩
        | none =>
          simp only [hr] at h ⊢
          cases ha : allocOf sh ins x st z with
          | some q =>
            obtain ⟨st', sh', z'⟩ := q
            simp only [ha] at h
            obtain ⟨w', hw', hA'⟩ := alloc_agree hA ha
            simp only [hw']
            exact ih _ _ _ _ _ _ _ _ _ _ _ _ hA' h
          | none =>
            simp only [ha] at h
            simp only [alloc_none w z ha]
            cases hs : step1 sh ins len x pc ls st z with
            | some q =>
              obtain ⟨pc', ls', st', z'⟩ := q
              simp only [hs] at h
              obtain ⟨w', hw', hA'⟩ := step1_agree hA hs
              simp only [hw']
              exact ih _ _ _ _ _ _ _ _ _ _ _ _ hA' h
            | none => rw [hs] at h; cases h
