/-! weakest preconditions over the pure machine: fuel is hidden -/
theorem ev_more : ∀ (n d mi pc : Nat) (ls : PL) (st : List PV) (sh : Shp) (w : Hp) (r : Option PV × Shp × Hp), ev n d mi pc ls st sh w = some r → ev (n + 1) d mi pc ls st sh w = some r := by
  intro n
  induction n with
  | zero => intro d mi pc ls st sh w r h; cases h
  | succ n ih =>
    intro d mi pc ls st sh w r h
    rw [ev] at h ⊢
    cases hrow : rowOf mi pc with
    | none => rw [hrow] at h; cases h
    | some row =>
      obtain ⟨pc0, ins, len, x, pos⟩ := row
      simp only [hrow] at h ⊢
      cases hj : callOf ins x with
      | some j =>
        simp only [hj] at h ⊢
        cases d with
        | zero => cases h
        | succ d' =>
          simp only at h ⊢
          split at h
          · rename_i hc
            rw [if_pos hc]
            cases hev : ev n d' j 0 (entryLs j (List.take (mPop j) st).reverse) [] sh w with
            | none => rw [hev] at h; cases h
            | some q =>
              obtain ⟨v1, sh1, w1⟩ := q
              rw [hev] at h
              rw [ih _ _ _ _ _ _ _ _ hev]
              exact ih _ _ _ _ _ _ _ _ h
          · cases h
      | none =>
        simp only [hj] at h ⊢
        cases hr : retOf mi ins st with
        | some v0 =>
          simp only [hr] at h ⊢
          exact h
        | none =>
          simp only [hr] at h ⊢
          cases ha : allocOf sh ins x st w with
          | some q =>
            obtain ⟨st', sh', w'⟩ := q
            simp only [ha] at h ⊢
            exact ih _ _ _ _ _ _ _ _ h
          | none =>
            simp only [ha] at h ⊢
            cases hs : step1 sh ins len x pc ls st w with
            | some q =>
              obtain ⟨pc', ls', st', w'⟩ := q
              simp only [hs] at h ⊢
              exact ih _ _ _ _ _ _ _ _ h
            | none => rw [hs] at h; cases h
theorem ev_le {n m d mi pc : Nat} {ls : PL} {st : List PV} {sh : Shp} {w : Hp} {r : Option PV × Shp × Hp} (hnm : n ≤ m) (h : ev n d mi pc ls st sh w = some r) : ev m d mi pc ls st sh w = some r := by
  induction hnm with
  | refl => exact h
  | step _ ih => exact ev_more _ _ _ _ _ _ _ _ _ ih
/-- from here the method returns, makes no cell, and Q holds of answer and heap -/
def WP (sh : Shp) (d mi pc : Nat) (ls : PL) (st : List PV) (w : Hp) (Q : Option PV → Hp → Prop) : Prop := ∃ (n : Nat) (v : Option PV) (w' : Hp), ev n d mi pc ls st sh w = some (v, sh, w') ∧ Q v w'
theorem WP.mono {sh : Shp} {d mi pc : Nat} {ls : PL} {st : List PV} {w : Hp} {Q Q' : Option PV → Hp → Prop} (h : WP sh d mi pc ls st w Q) (hq : ∀ v w', Q v w' → Q' v w') : WP sh d mi pc ls st w Q' := by
  obtain ⟨n, v, w', h1, h2⟩ := h
  exact ⟨n, v, w', h1, hq v w' h2⟩
section WPR
variable {sh : Shp} {d mi pc pc' pc0 len pos : Nat} {x : Int} {ls ls' : PL} {st : List PV} {w : Hp} {Q : Option PV → Hp → Prop}
theorem wp_of {ins : Instr} {st' : List PV} {w' : Hp} (h : rowOf mi pc = some (pc0, ins, len, x, pos)) (h1 : callOf ins x = none) (h2 : retOf mi ins st = none) (h3 : allocOf sh ins x st w = none) (h4 : step1 sh ins len x pc ls st w = some (pc', ls', st', w')) (k : WP sh d mi pc' ls' st' w' Q) : WP sh d mi pc ls st w Q := by
  obtain ⟨n, v, w2, e1, e2⟩ := k
  refine ⟨n + 1, v, w2, ?_, e2⟩
  unfold ev
  simp only [h, h1, h2, h3, h4]
  exact e1
/-- a call: the callee's contract, then on with its answer -/
theorem wp_call {ins : Instr} {j : Nat} {as rest : List PV} {Q1 : Option PV → Hp → Prop} (h : rowOf mi pc = some (pc0, ins, len, x, pos)) (h1 : callOf ins x = some j) (hp : pc + len = pc') (ha : (st.take (mPop j)).reverse = as) (hr : st.drop (mPop j) = rest) (hc : mPop j ≤ st.length ∧ rest.length ≤ 4 ∧ j < 230 ∧ 0 < j ∧ (spread as).length ≤ mLoc j) (hv : recvOk sh j as = true) (hm : WP sh d j 0 (entryLs j as) [] w Q1) (k : ∀ v w', Q1 v w' → WP sh (d + 1) mi pc' ls (v.toList ++ rest) w' Q) : WP sh (d + 1) mi pc ls st w Q := by
  subst ha hr hp
  obtain ⟨n1, v1, w1, e1, q1⟩ := hm
  obtain ⟨n2, v2, w2, e2, q2⟩ := k v1 w1 q1
  refine ⟨max n1 n2 + 1, v2, w2, ?_, q2⟩
  unfold ev
  simp only [h, h1]
  rw [if_pos ⟨hc.1, hc.2.1, hv, hc.2.2.1, hc.2.2.2.1, hc.2.2.2.2⟩, ev_le (Nat.le_max_left n1 n2) e1]
  exact ev_le (Nat.le_max_right n1 n2) e2
theorem wp_ret {ins : Instr} {v : Option PV} (h : rowOf mi pc = some (pc0, ins, len, x, pos)) (h1 : callOf ins x = none) (h2 : retOf mi ins st = some v) (q : Q v w) : WP sh d mi pc ls st w Q := by
  refine ⟨1, v, w, ?_, q⟩
  unfold ev
  simp only [h, h1, h2]
theorem wp_iload_n {k0 : Fin 4} {a : Int} (h : rowOf mi pc = some (pc0, .iload_n k0, len, x, pos)) (hp : pc + len = pc') (hg : ls[k0.val]? = some (some (vI a))) (k : WP sh d mi pc' ls (vI a :: st) w Q) : WP sh d mi pc ls (st) w Q := by
  subst hp
  exact wp_of h rfl rfl rfl (by simp only [step1, hg]) k
theorem wp_lload_n {k0 : Fin 4} {a : Int} (h : rowOf mi pc = some (pc0, .lload_n k0, len, x, pos)) (hp : pc + len = pc') (hg : ls[k0.val]? = some (some (vL a))) (k : WP sh d mi pc' ls (vL a :: st) w Q) : WP sh d mi pc ls (st) w Q := by
  subst hp
  exact wp_of h rfl rfl rfl (by simp only [step1, hg]) k
theorem wp_aload_n {k0 : Fin 4} {a : Int} (h : rowOf mi pc = some (pc0, .aload_n k0, len, x, pos)) (hp : pc + len = pc') (hg : ls[k0.val]? = some (some (vR a))) (hn : a ≠ -1) (k : WP sh d mi pc' ls (vR a :: st) w Q) : WP sh d mi pc ls (st) w Q := by
  subst hp
  exact wp_of h rfl rfl rfl (by simp only [step1, hg, if_neg hn]) k
theorem wp_iload {k0 : Nat} {a : Int} (h : rowOf mi pc = some (pc0, .iload k0, len, x, pos)) (hp : pc + len = pc') (hg : ls[k0]? = some (some (vI a))) (k : WP sh d mi pc' ls (vI a :: st) w Q) : WP sh d mi pc ls (st) w Q := by
  subst hp
  exact wp_of h rfl rfl rfl (by simp only [step1, hg]) k
theorem wp_lload {k0 : Nat} {a : Int} (h : rowOf mi pc = some (pc0, .lload k0, len, x, pos)) (hp : pc + len = pc') (hg : ls[k0]? = some (some (vL a))) (k : WP sh d mi pc' ls (vL a :: st) w Q) : WP sh d mi pc ls (st) w Q := by
  subst hp
  exact wp_of h rfl rfl rfl (by simp only [step1, hg]) k
theorem wp_aload {k0 : Nat} {a : Int} (h : rowOf mi pc = some (pc0, .aload k0, len, x, pos)) (hp : pc + len = pc') (hg : ls[k0]? = some (some (vR a))) (hn : a ≠ -1) (k : WP sh d mi pc' ls (vR a :: st) w Q) : WP sh d mi pc ls (st) w Q := by
  subst hp
  exact wp_of h rfl rfl rfl (by simp only [step1, hg, if_neg hn]) k
theorem wp_istore_n {k0 : Fin 4} {a : Int} (h : rowOf mi pc = some (pc0, .istore_n k0, len, x, pos)) (hp : pc + len = pc') (hk : k0.val < ls.length) (hl : lset ls k0.val (vI a) = ls') (k : WP sh d mi pc' ls' (st) w Q) : WP sh d mi pc ls (vI a :: st) w Q := by
  subst hp
  exact wp_of h rfl rfl rfl (by simp only [step1, if_pos hk, hl]) k
theorem wp_lstore_n {k0 : Fin 4} {a : Int} (h : rowOf mi pc = some (pc0, .lstore_n k0, len, x, pos)) (hp : pc + len = pc') (hk : k0.val + 1 < ls.length) (hl : lset2 ls k0.val (vL a) = ls') (k : WP sh d mi pc' ls' (st) w Q) : WP sh d mi pc ls (vL a :: st) w Q := by
  subst hp
  exact wp_of h rfl rfl rfl (by simp only [step1, if_pos hk, hl]) k
theorem wp_istore {k0 : Nat} {a : Int} (h : rowOf mi pc = some (pc0, .istore k0, len, x, pos)) (hp : pc + len = pc') (hk : k0 < ls.length) (hl : lset ls k0 (vI a) = ls') (k : WP sh d mi pc' ls' (st) w Q) : WP sh d mi pc ls (vI a :: st) w Q := by
  subst hp
  exact wp_of h rfl rfl rfl (by simp only [step1, if_pos hk, hl]) k
theorem wp_lstore {k0 : Nat} {a : Int} (h : rowOf mi pc = some (pc0, .lstore k0, len, x, pos)) (hp : pc + len = pc') (hk : k0 + 1 < ls.length) (hl : lset2 ls k0 (vL a) = ls') (k : WP sh d mi pc' ls' (st) w Q) : WP sh d mi pc ls (vL a :: st) w Q := by
  subst hp
  exact wp_of h rfl rfl rfl (by simp only [step1, if_pos hk, hl]) k
theorem wp_astore_n {k0 : Fin 4} {a : Int} (h : rowOf mi pc = some (pc0, .astore_n k0, len, x, pos)) (hp : pc + len = pc') (hn : a ≠ -1) (hk : k0.val < ls.length) (hl : lset ls k0.val (vR a) = ls') (k : WP sh d mi pc' ls' (st) w Q) : WP sh d mi pc ls (vR a :: st) w Q := by
  subst hp
  exact wp_of h rfl rfl rfl (by simp only [step1, if_neg hn, if_pos hk, hl]) k
theorem wp_iinc {k0 : Nat} {a n b : Int} (h : rowOf mi pc = some (pc0, .iinc k0 n, len, x, pos)) (hp : pc + len = pc') (hg : ls[k0]? = some (some (vI a))) (hb : w32 (a + w32 n) = b) (hl : lset ls k0 (vI b) = ls') (k : WP sh d mi pc' ls' (st) w Q) : WP sh d mi pc ls (st) w Q := by
  subst hp
  exact wp_of h rfl rfl rfl (by simp only [step1, hg, hb, hl]) k
theorem wp_iconst {n a : Int} (h : rowOf mi pc = some (pc0, .iconst n, len, x, pos)) (hp : pc + len = pc') (ha : w32 n = a) (k : WP sh d mi pc' ls (vI a :: st) w Q) : WP sh d mi pc ls (st) w Q := by
  subst hp
  exact wp_of h rfl rfl rfl (by subst ha; rfl) k
theorem wp_bipush {n a : Int} (h : rowOf mi pc = some (pc0, .bipush n, len, x, pos)) (hp : pc + len = pc') (ha : iB n = a) (k : WP sh d mi pc' ls (vI a :: st) w Q) : WP sh d mi pc ls (st) w Q := by
  subst hp
  exact wp_of h rfl rfl rfl (by subst ha; rfl) k
theorem wp_sipush {n a : Int} (h : rowOf mi pc = some (pc0, .sipush n, len, x, pos)) (hp : pc + len = pc') (ha : Int.bmod n 65536 = a) (k : WP sh d mi pc' ls (vI a :: st) w Q) : WP sh d mi pc ls (st) w Q := by
  subst hp
  exact wp_of h rfl rfl rfl (by subst ha; rfl) k
theorem wp_ldc {i : Nat} {a : Int} (h : rowOf mi pc = some (pc0, .ldc i, len, x, pos)) (hp : pc + len = pc') (ha : w32 x = a) (k : WP sh d mi pc' ls (vI a :: st) w Q) : WP sh d mi pc ls (st) w Q := by
  subst hp
  exact wp_of h rfl rfl rfl (by subst ha; rfl) k
theorem wp_ldc_w {i : Nat} {a : Int} (h : rowOf mi pc = some (pc0, .ldc_w i, len, x, pos)) (hp : pc + len = pc') (ha : w32 x = a) (k : WP sh d mi pc' ls (vI a :: st) w Q) : WP sh d mi pc ls (st) w Q := by
  subst hp
  exact wp_of h rfl rfl rfl (by subst ha; rfl) k
theorem wp_ldc2_w {i : Nat} {a : Int} (h : rowOf mi pc = some (pc0, .ldc2_w i, len, x, pos)) (hp : pc + len = pc') (ha : w64 x = a) (k : WP sh d mi pc' ls (vL a :: st) w Q) : WP sh d mi pc ls (st) w Q := by
  subst hp
  exact wp_of h rfl rfl rfl (by subst ha; rfl) k
theorem wp_lconst {n : Fin 2} {a : Int} (h : rowOf mi pc = some (pc0, .lconst n, len, x, pos)) (hp : pc + len = pc') (ha : (n.val : Int) = a) (k : WP sh d mi pc' ls (vL a :: st) w Q) : WP sh d mi pc ls (st) w Q := by
  subst hp
  exact wp_of h rfl rfl rfl (by subst ha; rfl) k
theorem wp_dupI {a : Int} (h : rowOf mi pc = some (pc0, .dup, len, x, pos)) (hp : pc + len = pc') (k : WP sh d mi pc' ls (vI a :: vI a :: st) w Q) : WP sh d mi pc ls (vI a :: st) w Q := by
  subst hp
  exact wp_of h rfl rfl rfl (rfl) k
theorem wp_dupR {a : Int} (h : rowOf mi pc = some (pc0, .dup, len, x, pos)) (hp : pc + len = pc') (k : WP sh d mi pc' ls (vR a :: vR a :: st) w Q) : WP sh d mi pc ls (vR a :: st) w Q := by
  subst hp
  exact wp_of h rfl rfl rfl (rfl) k
theorem wp_dup2 {a b : Int} (h : rowOf mi pc = some (pc0, .dup2, len, x, pos)) (hp : pc + len = pc') (k : WP sh d mi pc' ls (vI a :: vR b :: vI a :: vR b :: st) w Q) : WP sh d mi pc ls (vI a :: vR b :: st) w Q := by
  subst hp
  exact wp_of h rfl rfl rfl (rfl) k
theorem wp_pop {a : Int} (h : rowOf mi pc = some (pc0, .pop, len, x, pos)) (hp : pc + len = pc') (k : WP sh d mi pc' ls (st) w Q) : WP sh d mi pc ls (vI a :: st) w Q := by
  subst hp
  exact wp_of h rfl rfl rfl (rfl) k
theorem wp_iadd {a b c : Int} (h : rowOf mi pc = some (pc0, .iadd, len, x, pos)) (hp : pc + len = pc') (hc : w32 (a + b) = c) (k : WP sh d mi pc' ls (vI c :: st) w Q) : WP sh d mi pc ls (vI b :: vI a :: st) w Q := by
  subst hp
  exact wp_of h rfl rfl rfl (by subst hc; rfl) k
theorem wp_isub {a b c : Int} (h : rowOf mi pc = some (pc0, .isub, len, x, pos)) (hp : pc + len = pc') (hc : w32 (a - b) = c) (k : WP sh d mi pc' ls (vI c :: st) w Q) : WP sh d mi pc ls (vI b :: vI a :: st) w Q := by
  subst hp
  exact wp_of h rfl rfl rfl (by subst hc; rfl) k
theorem wp_imul {a b c : Int} (h : rowOf mi pc = some (pc0, .imul, len, x, pos)) (hp : pc + len = pc') (hc : w32 (a * b) = c) (k : WP sh d mi pc' ls (vI c :: st) w Q) : WP sh d mi pc ls (vI b :: vI a :: st) w Q := by
  subst hp
  exact wp_of h rfl rfl rfl (by subst hc; rfl) k
theorem wp_iand {a b c : Int} (h : rowOf mi pc = some (pc0, .iand, len, x, pos)) (hp : pc + len = pc') (hc : iAnd a b = c) (k : WP sh d mi pc' ls (vI c :: st) w Q) : WP sh d mi pc ls (vI b :: vI a :: st) w Q := by
  subst hp
  exact wp_of h rfl rfl rfl (by subst hc; rfl) k
theorem wp_ior {a b c : Int} (h : rowOf mi pc = some (pc0, .ior, len, x, pos)) (hp : pc + len = pc') (hc : iOr a b = c) (k : WP sh d mi pc' ls (vI c :: st) w Q) : WP sh d mi pc ls (vI b :: vI a :: st) w Q := by
  subst hp
  exact wp_of h rfl rfl rfl (by subst hc; rfl) k
theorem wp_ixor {a b c : Int} (h : rowOf mi pc = some (pc0, .ixor, len, x, pos)) (hp : pc + len = pc') (hc : iXor a b = c) (k : WP sh d mi pc' ls (vI c :: st) w Q) : WP sh d mi pc ls (vI b :: vI a :: st) w Q := by
  subst hp
  exact wp_of h rfl rfl rfl (by subst hc; rfl) k
theorem wp_ishl {a b c : Int} (h : rowOf mi pc = some (pc0, .ishl, len, x, pos)) (hp : pc + len = pc') (hc : iShl a b = c) (k : WP sh d mi pc' ls (vI c :: st) w Q) : WP sh d mi pc ls (vI b :: vI a :: st) w Q := by
  subst hp
  exact wp_of h rfl rfl rfl (by subst hc; rfl) k
theorem wp_ishr {a b c : Int} (h : rowOf mi pc = some (pc0, .ishr, len, x, pos)) (hp : pc + len = pc') (hc : iShr a b = c) (k : WP sh d mi pc' ls (vI c :: st) w Q) : WP sh d mi pc ls (vI b :: vI a :: st) w Q := by
  subst hp
  exact wp_of h rfl rfl rfl (by subst hc; rfl) k
theorem wp_iushr {a b c : Int} (h : rowOf mi pc = some (pc0, .iushr, len, x, pos)) (hp : pc + len = pc') (hc : iUshr a b = c) (k : WP sh d mi pc' ls (vI c :: st) w Q) : WP sh d mi pc ls (vI b :: vI a :: st) w Q := by
  subst hp
  exact wp_of h rfl rfl rfl (by subst hc; rfl) k
theorem wp_idiv {a b c : Int} (h : rowOf mi pc = some (pc0, .idiv, len, x, pos)) (hp : pc + len = pc') (hn : b ≠ 0) (hc : iDiv a b = c) (k : WP sh d mi pc' ls (vI c :: st) w Q) : WP sh d mi pc ls (vI b :: vI a :: st) w Q := by
  subst hp
  exact wp_of h rfl rfl rfl (by subst hc; simp only [step1, if_neg hn]) k
theorem wp_irem {a b c : Int} (h : rowOf mi pc = some (pc0, .irem, len, x, pos)) (hp : pc + len = pc') (hn : b ≠ 0) (hc : iRem a b = c) (k : WP sh d mi pc' ls (vI c :: st) w Q) : WP sh d mi pc ls (vI b :: vI a :: st) w Q := by
  subst hp
  exact wp_of h rfl rfl rfl (by subst hc; simp only [step1, if_neg hn]) k
theorem wp_ineg {a c : Int} (h : rowOf mi pc = some (pc0, .ineg, len, x, pos)) (hp : pc + len = pc') (hc : w32 (-a) = c) (k : WP sh d mi pc' ls (vI c :: st) w Q) : WP sh d mi pc ls (vI a :: st) w Q := by
  subst hp
  exact wp_of h rfl rfl rfl (by subst hc; rfl) k
theorem wp_i2l {a : Int} (h : rowOf mi pc = some (pc0, .i2l, len, x, pos)) (hp : pc + len = pc') (k : WP sh d mi pc' ls (vL a :: st) w Q) : WP sh d mi pc ls (vI a :: st) w Q := by
  subst hp
  exact wp_of h rfl rfl rfl (rfl) k
theorem wp_l2i {a c : Int} (h : rowOf mi pc = some (pc0, .l2i, len, x, pos)) (hp : pc + len = pc') (hc : w32 a = c) (k : WP sh d mi pc' ls (vI c :: st) w Q) : WP sh d mi pc ls (vL a :: st) w Q := by
  subst hp
  exact wp_of h rfl rfl rfl (by subst hc; rfl) k
theorem wp_i2b {a c : Int} (h : rowOf mi pc = some (pc0, .i2b, len, x, pos)) (hp : pc + len = pc') (hc : iB a = c) (k : WP sh d mi pc' ls (vI c :: st) w Q) : WP sh d mi pc ls (vI a :: st) w Q := by
  subst hp
  exact wp_of h rfl rfl rfl (by subst hc; rfl) k
theorem wp_ladd {a b c : Int} (h : rowOf mi pc = some (pc0, .ladd, len, x, pos)) (hp : pc + len = pc') (hc : w64 (a + b) = c) (k : WP sh d mi pc' ls (vL c :: st) w Q) : WP sh d mi pc ls (vL b :: vL a :: st) w Q := by
  subst hp
  exact wp_of h rfl rfl rfl (by subst hc; rfl) k
theorem wp_lmul {a b c : Int} (h : rowOf mi pc = some (pc0, .lmul, len, x, pos)) (hp : pc + len = pc') (hc : w64 (a * b) = c) (k : WP sh d mi pc' ls (vL c :: st) w Q) : WP sh d mi pc ls (vL b :: vL a :: st) w Q := by
  subst hp
  exact wp_of h rfl rfl rfl (by subst hc; rfl) k
theorem wp_ldiv {a b c : Int} (h : rowOf mi pc = some (pc0, .ldiv, len, x, pos)) (hp : pc + len = pc') (hn : b ≠ 0) (hc : lDiv a b = c) (k : WP sh d mi pc' ls (vL c :: st) w Q) : WP sh d mi pc ls (vL b :: vL a :: st) w Q := by
  subst hp
  exact wp_of h rfl rfl rfl (by subst hc; simp only [step1, if_neg hn]) k
theorem wp_lrem {a b c : Int} (h : rowOf mi pc = some (pc0, .lrem, len, x, pos)) (hp : pc + len = pc') (hn : b ≠ 0) (hc : lRem a b = c) (k : WP sh d mi pc' ls (vL c :: st) w Q) : WP sh d mi pc ls (vL b :: vL a :: st) w Q := by
  subst hp
  exact wp_of h rfl rfl rfl (by subst hc; simp only [step1, if_neg hn]) k
theorem wp_lcmp {a b c : Int} (h : rowOf mi pc = some (pc0, .lcmp, len, x, pos)) (hp : pc + len = pc') (hc : lCmp a b = c) (k : WP sh d mi pc' ls (vI c :: st) w Q) : WP sh d mi pc ls (vL b :: vL a :: st) w Q := by
  subst hp
  exact wp_of h rfl rfl rfl (by subst hc; rfl) k
theorem wp_goto {off : Int} (h : rowOf mi pc = some (pc0, .goto off, len, x, pos)) (hp : x.toNat = pc') (k : WP sh d mi pc' ls st w Q) : WP sh d mi pc ls st w Q := by
  subst hp
  exact wp_of h rfl rfl rfl rfl k
theorem wp_if_eq {a : Int} {off : Int} {pt : Nat} (h : rowOf mi pc = some (pc0, .ifCond .eq off, len, x, pos)) (hp : pc + len = pc') (ht : x.toNat = pt) (kt : a = 0 → WP sh d mi pt ls st w Q) (kf : ¬ (a = 0) → WP sh d mi pc' ls st w Q) : WP sh d mi pc ls (vI a :: st) w Q := by
  subst hp ht
  by_cases hc : a = 0
  · exact wp_of (pc' := x.toNat) h rfl rfl rfl (by simp only [step1, tgt, if_pos hc]) (kt hc)
  · exact wp_of (pc' := pc + len) h rfl rfl rfl (by simp only [step1, tgt, if_neg hc]) (kf hc)
theorem wp_icmp_eq {a b : Int} {off : Int} {pt : Nat} (h : rowOf mi pc = some (pc0, .if_icmp .eq off, len, x, pos)) (hp : pc + len = pc') (ht : x.toNat = pt) (kt : a = b → WP sh d mi pt ls st w Q) (kf : ¬ (a = b) → WP sh d mi pc' ls st w Q) : WP sh d mi pc ls (vI b :: vI a :: st) w Q := by
  subst hp ht
  by_cases hc : a = b
  · exact wp_of (pc' := x.toNat) h rfl rfl rfl (by simp only [step1, tgt, if_pos hc]) (kt hc)
  · exact wp_of (pc' := pc + len) h rfl rfl rfl (by simp only [step1, tgt, if_neg hc]) (kf hc)
theorem wp_if_ne {a : Int} {off : Int} {pt : Nat} (h : rowOf mi pc = some (pc0, .ifCond .ne off, len, x, pos)) (hp : pc + len = pc') (ht : x.toNat = pt) (kt : a ≠ 0 → WP sh d mi pt ls st w Q) (kf : ¬ (a ≠ 0) → WP sh d mi pc' ls st w Q) : WP sh d mi pc ls (vI a :: st) w Q := by
  subst hp ht
  by_cases hc : a ≠ 0
  · exact wp_of (pc' := x.toNat) h rfl rfl rfl (by simp only [step1, tgt, if_pos hc]) (kt hc)
  · exact wp_of (pc' := pc + len) h rfl rfl rfl (by simp only [step1, tgt, if_neg hc]) (kf hc)
theorem wp_icmp_ne {a b : Int} {off : Int} {pt : Nat} (h : rowOf mi pc = some (pc0, .if_icmp .ne off, len, x, pos)) (hp : pc + len = pc') (ht : x.toNat = pt) (kt : a ≠ b → WP sh d mi pt ls st w Q) (kf : ¬ (a ≠ b) → WP sh d mi pc' ls st w Q) : WP sh d mi pc ls (vI b :: vI a :: st) w Q := by
  subst hp ht
  by_cases hc : a ≠ b
  · exact wp_of (pc' := x.toNat) h rfl rfl rfl (by simp only [step1, tgt, if_pos hc]) (kt hc)
  · exact wp_of (pc' := pc + len) h rfl rfl rfl (by simp only [step1, tgt, if_neg hc]) (kf hc)
theorem wp_if_lt {a : Int} {off : Int} {pt : Nat} (h : rowOf mi pc = some (pc0, .ifCond .lt off, len, x, pos)) (hp : pc + len = pc') (ht : x.toNat = pt) (kt : a < 0 → WP sh d mi pt ls st w Q) (kf : ¬ (a < 0) → WP sh d mi pc' ls st w Q) : WP sh d mi pc ls (vI a :: st) w Q := by
  subst hp ht
  by_cases hc : a < 0
  · exact wp_of (pc' := x.toNat) h rfl rfl rfl (by simp only [step1, tgt, if_pos hc]) (kt hc)
  · exact wp_of (pc' := pc + len) h rfl rfl rfl (by simp only [step1, tgt, if_neg hc]) (kf hc)
theorem wp_icmp_lt {a b : Int} {off : Int} {pt : Nat} (h : rowOf mi pc = some (pc0, .if_icmp .lt off, len, x, pos)) (hp : pc + len = pc') (ht : x.toNat = pt) (kt : a < b → WP sh d mi pt ls st w Q) (kf : ¬ (a < b) → WP sh d mi pc' ls st w Q) : WP sh d mi pc ls (vI b :: vI a :: st) w Q := by
  subst hp ht
  by_cases hc : a < b
  · exact wp_of (pc' := x.toNat) h rfl rfl rfl (by simp only [step1, tgt, if_pos hc]) (kt hc)
  · exact wp_of (pc' := pc + len) h rfl rfl rfl (by simp only [step1, tgt, if_neg hc]) (kf hc)
theorem wp_if_ge {a : Int} {off : Int} {pt : Nat} (h : rowOf mi pc = some (pc0, .ifCond .ge off, len, x, pos)) (hp : pc + len = pc') (ht : x.toNat = pt) (kt : 0 ≤ a → WP sh d mi pt ls st w Q) (kf : ¬ (0 ≤ a) → WP sh d mi pc' ls st w Q) : WP sh d mi pc ls (vI a :: st) w Q := by
  subst hp ht
  by_cases hc : 0 ≤ a
  · exact wp_of (pc' := x.toNat) h rfl rfl rfl (by simp only [step1, tgt, if_pos hc]) (kt hc)
  · exact wp_of (pc' := pc + len) h rfl rfl rfl (by simp only [step1, tgt, if_neg hc]) (kf hc)
theorem wp_icmp_ge {a b : Int} {off : Int} {pt : Nat} (h : rowOf mi pc = some (pc0, .if_icmp .ge off, len, x, pos)) (hp : pc + len = pc') (ht : x.toNat = pt) (kt : b ≤ a → WP sh d mi pt ls st w Q) (kf : ¬ (b ≤ a) → WP sh d mi pc' ls st w Q) : WP sh d mi pc ls (vI b :: vI a :: st) w Q := by
  subst hp ht
  by_cases hc : b ≤ a
  · exact wp_of (pc' := x.toNat) h rfl rfl rfl (by simp only [step1, tgt, if_pos hc]) (kt hc)
  · exact wp_of (pc' := pc + len) h rfl rfl rfl (by simp only [step1, tgt, if_neg hc]) (kf hc)
theorem wp_if_gt {a : Int} {off : Int} {pt : Nat} (h : rowOf mi pc = some (pc0, .ifCond .gt off, len, x, pos)) (hp : pc + len = pc') (ht : x.toNat = pt) (kt : 0 < a → WP sh d mi pt ls st w Q) (kf : ¬ (0 < a) → WP sh d mi pc' ls st w Q) : WP sh d mi pc ls (vI a :: st) w Q := by
  subst hp ht
  by_cases hc : 0 < a
  · exact wp_of (pc' := x.toNat) h rfl rfl rfl (by simp only [step1, tgt, if_pos hc]) (kt hc)
  · exact wp_of (pc' := pc + len) h rfl rfl rfl (by simp only [step1, tgt, if_neg hc]) (kf hc)
theorem wp_icmp_gt {a b : Int} {off : Int} {pt : Nat} (h : rowOf mi pc = some (pc0, .if_icmp .gt off, len, x, pos)) (hp : pc + len = pc') (ht : x.toNat = pt) (kt : b < a → WP sh d mi pt ls st w Q) (kf : ¬ (b < a) → WP sh d mi pc' ls st w Q) : WP sh d mi pc ls (vI b :: vI a :: st) w Q := by
  subst hp ht
  by_cases hc : b < a
  · exact wp_of (pc' := x.toNat) h rfl rfl rfl (by simp only [step1, tgt, if_pos hc]) (kt hc)
  · exact wp_of (pc' := pc + len) h rfl rfl rfl (by simp only [step1, tgt, if_neg hc]) (kf hc)
theorem wp_if_le {a : Int} {off : Int} {pt : Nat} (h : rowOf mi pc = some (pc0, .ifCond .le off, len, x, pos)) (hp : pc + len = pc') (ht : x.toNat = pt) (kt : a ≤ 0 → WP sh d mi pt ls st w Q) (kf : ¬ (a ≤ 0) → WP sh d mi pc' ls st w Q) : WP sh d mi pc ls (vI a :: st) w Q := by
  subst hp ht
  by_cases hc : a ≤ 0
  · exact wp_of (pc' := x.toNat) h rfl rfl rfl (by simp only [step1, tgt, if_pos hc]) (kt hc)
  · exact wp_of (pc' := pc + len) h rfl rfl rfl (by simp only [step1, tgt, if_neg hc]) (kf hc)
theorem wp_icmp_le {a b : Int} {off : Int} {pt : Nat} (h : rowOf mi pc = some (pc0, .if_icmp .le off, len, x, pos)) (hp : pc + len = pc') (ht : x.toNat = pt) (kt : a ≤ b → WP sh d mi pt ls st w Q) (kf : ¬ (a ≤ b) → WP sh d mi pc' ls st w Q) : WP sh d mi pc ls (vI b :: vI a :: st) w Q := by
  subst hp ht
  by_cases hc : a ≤ b
  · exact wp_of (pc' := x.toNat) h rfl rfl rfl (by simp only [step1, tgt, if_pos hc]) (kt hc)
  · exact wp_of (pc' := pc + len) h rfl rfl rfl (by simp only [step1, tgt, if_neg hc]) (kf hc)
theorem wp_ifnull {a : Int} {off : Int} (h : rowOf mi pc = some (pc0, .ifnull off, len, x, pos)) (hp : pc + len = pc') (hn : a ≠ -1) (k : WP sh d mi pc' ls (st) w Q) : WP sh d mi pc ls (vR a :: st) w Q := by
  subst hp
  exact wp_of h rfl rfl rfl (by simp only [step1, if_neg hn]) k
theorem wp_swOut {a dflt lo hi : Int} {offs : Array Int} (h : rowOf mi pc = some (pc0, .tableswitch dflt lo hi offs, len, x, pos)) (ha : a < lo ∨ hi < a) (hp : ((pc : Int) + dflt).toNat = pc') (k : WP sh d mi pc' ls st w Q) : WP sh d mi pc ls (vI a :: st) w Q := by
  subst hp
  exact wp_of h rfl rfl rfl (by simp only [step1, if_pos ha]) k
theorem wp_swIn {a dflt lo hi o : Int} {offs : Array Int} (h : rowOf mi pc = some (pc0, .tableswitch dflt lo hi offs, len, x, pos)) (ha : ¬ (a < lo ∨ hi < a)) (ho : offs[(a - lo).toNat]? = some o) (hp : ((pc : Int) + o).toNat = pc') (k : WP sh d mi pc' ls st w Q) : WP sh d mi pc ls (vI a :: st) w Q := by
  subst hp
  exact wp_of h rfl rfl rfl (by simp only [step1, if_neg ha, ho]) k
theorem wp_getI {r k0 : Int} {i ci : Nat} (h : rowOf mi pc = some (pc0, .getfield i, len, x, pos)) (hp : pc + len = pc') (hx : (x / 100).toNat = ci ∧ x % 100 = k0 ∧ (fk ci k0.toNat = 0 ∨ fk ci k0.toNat = 3)) (hs : shAt sh r = some (0, ci)) (k : WP sh d mi pc' ls (vI (w r k0) :: st) w Q) : WP sh d mi pc ls (vR r :: st) w Q := by
  subst hp
  obtain ⟨rfl, rfl, h4⟩ := hx
  refine wp_of h rfl rfl rfl ?_ k
  simp only [step1, if_pos hs]
  rcases h4 with h4 | h4 <;> rw [h4] <;> rfl
theorem wp_getL {r k0 : Int} {i ci : Nat} (h : rowOf mi pc = some (pc0, .getfield i, len, x, pos)) (hp : pc + len = pc') (hx : (x / 100).toNat = ci ∧ x % 100 = k0 ∧ fk ci k0.toNat = 1) (hs : shAt sh r = some (0, ci)) (k : WP sh d mi pc' ls (vL (w r k0) :: st) w Q) : WP sh d mi pc ls (vR r :: st) w Q := by
  subst hp
  obtain ⟨rfl, rfl, h4⟩ := hx
  refine wp_of h rfl rfl rfl ?_ k
  simp only [step1, if_pos hs]
  rw [h4]
  rfl
theorem wp_getR {r r' k0 : Int} {i ci : Nat} (h : rowOf mi pc = some (pc0, .getfield i, len, x, pos)) (hp : pc + len = pc') (hx : (x / 100).toNat = ci ∧ x % 100 = k0 ∧ fk ci k0.toNat = 2) (hs : shAt sh r = some (0, ci)) (hr : w r k0 = r') (k : WP sh d mi pc' ls (vR r' :: st) w Q) : WP sh d mi pc ls (vR r :: st) w Q := by
  subst hp hr
  obtain ⟨rfl, rfl, h4⟩ := hx
  refine wp_of h rfl rfl rfl ?_ k
  simp only [step1, if_pos hs]
  rw [h4]
  rfl
theorem wp_putI {r a k0 : Int} {i ci : Nat} (h : rowOf mi pc = some (pc0, .putfield i, len, x, pos)) (hp : pc + len = pc') (hx : (x / 100).toNat = ci ∧ x % 100 = k0 ∧ fk ci k0.toNat = 0) (hs : shAt sh r = some (0, ci)) (k : WP sh d mi pc' ls st (up w r k0 a) Q) : WP sh d mi pc ls (vI a :: vR r :: st) w Q := by
  subst hp
  obtain ⟨rfl, rfl, h4⟩ := hx
  refine wp_of h rfl rfl rfl ?_ k
  simp only [step1, if_pos hs, h4]
  rfl
theorem wp_putZ {r a k0 : Int} {i ci : Nat} (h : rowOf mi pc = some (pc0, .putfield i, len, x, pos)) (hp : pc + len = pc') (hx : (x / 100).toNat = ci ∧ x % 100 = k0 ∧ fk ci k0.toNat = 3) (hz : a = 0 ∨ a = 1) (hs : shAt sh r = some (0, ci)) (k : WP sh d mi pc' ls st (up w r k0 a) Q) : WP sh d mi pc ls (vI a :: vR r :: st) w Q := by
  subst hp
  obtain ⟨rfl, rfl, h4⟩ := hx
  refine wp_of h rfl rfl rfl ?_ k
  simp only [step1, if_pos hs, h4, untag, if_pos hz]
theorem wp_putL {r a k0 : Int} {i ci : Nat} (h : rowOf mi pc = some (pc0, .putfield i, len, x, pos)) (hp : pc + len = pc') (hx : (x / 100).toNat = ci ∧ x % 100 = k0 ∧ fk ci k0.toNat = 1) (hs : shAt sh r = some (0, ci)) (k : WP sh d mi pc' ls st (up w r k0 a) Q) : WP sh d mi pc ls (vL a :: vR r :: st) w Q := by
  subst hp
  obtain ⟨rfl, rfl, h4⟩ := hx
  refine wp_of h rfl rfl rfl ?_ k
  simp only [step1, if_pos hs, h4]
  rfl
theorem wp_putR {r a k0 : Int} {i ci : Nat} (h : rowOf mi pc = some (pc0, .putfield i, len, x, pos)) (hp : pc + len = pc') (hx : (x / 100).toNat = ci ∧ x % 100 = k0 ∧ fk ci k0.toNat = 2) (hs : shAt sh r = some (0, ci)) (k : WP sh d mi pc' ls st (up w r k0 a) Q) : WP sh d mi pc ls (vR a :: vR r :: st) w Q := by
  subst hp
  obtain ⟨rfl, rfl, h4⟩ := hx
  refine wp_of h rfl rfl rfl ?_ k
  simp only [step1, if_pos hs, h4]
  rfl
theorem wp_getstatic {i : Nat} (h : rowOf mi pc = some (pc0, .getstatic i, len, x, pos)) (hp : pc + len = pc') (k : WP sh d mi pc' ls (vR x :: st) w Q) : WP sh d mi pc ls st w Q := by
  subst hp
  exact wp_of h rfl rfl rfl rfl k
theorem ld_in {ks : List Nat} {rs : List Int} {r i : Int} {k0 n : Nat} (hs : shAt sh r = some (k0, n)) (hk : ks.contains k0 = true) (hi : 0 ≤ i ∧ i < n) : ldArr sh ks rs r i w = some (w r i) := by
  unfold shAt at hs
  unfold ldArr
  split at hs
  · rename_i h0
    rw [if_pos h0]
    simp only [hs]
    rw [if_pos ⟨hk, hi⟩]
  · cases hs
theorem ld_ro {ks : List Nat} {rs : List Int} {r i : Int} (h0 : r < 0) (hk : rs.contains r = true) (hi : 0 ≤ i ∧ i < w r (-1)) : ldArr sh ks rs r i w = some (w r i) := by
  unfold ldArr
  rw [if_neg (by omega), if_pos ⟨hk, hi⟩]
theorem st_in {ks : List Nat} {r i : Int} {k0 n : Nat} (hs : shAt sh r = some (k0, n)) (hk : ks.contains k0 = true) (hi : 0 ≤ i ∧ i < n) : stArr sh ks r i = true := by
  unfold stArr
  simp only [hs, hk, Bool.true_and, decide_eq_true_eq]
  exact hi
theorem wp_iaload {r i : Int} {n : Nat} (h : rowOf mi pc = some (pc0, .iaload, len, x, pos)) (hp : pc + len = pc') (hs : shAt sh r = some (1, n)) (hi : 0 ≤ i ∧ i < n) (k : WP sh d mi pc' ls (vI (w r i) :: st) w Q) : WP sh d mi pc ls (vI i :: vR r :: st) w Q := by
  subst hp
  exact wp_of h rfl rfl rfl (by simp only [step1, ld_in (ks := [1]) (rs := [-2, -4, -5]) hs rfl hi]) k
theorem wp_laload {r i : Int} {n : Nat} (h : rowOf mi pc = some (pc0, .laload, len, x, pos)) (hp : pc + len = pc') (hs : shAt sh r = some (2, n)) (hi : 0 ≤ i ∧ i < n) (k : WP sh d mi pc' ls (vL (w r i) :: st) w Q) : WP sh d mi pc ls (vI i :: vR r :: st) w Q := by
  subst hp
  exact wp_of h rfl rfl rfl (by simp only [step1, ld_in (ks := [2]) (rs := []) hs rfl hi]) k
theorem wp_baload {r i : Int} {k0 n : Nat} (h : rowOf mi pc = some (pc0, .baload, len, x, pos)) (hp : pc + len = pc') (hs : shAt sh r = some (k0, n)) (hk : [3, 4].contains k0 = true) (hi : 0 ≤ i ∧ i < n) (k : WP sh d mi pc' ls (vI (w r i) :: st) w Q) : WP sh d mi pc ls (vI i :: vR r :: st) w Q := by
  subst hp
  exact wp_of h rfl rfl rfl (by simp only [step1, ld_in hs hk hi]) k
theorem wp_aaload {r r' i : Int} {k0 n : Nat} (h : rowOf mi pc = some (pc0, .aaload, len, x, pos)) (hp : pc + len = pc') (hs : shAt sh r = some (k0, n)) (hk : [5, 6, 7].contains k0 = true) (hi : 0 ≤ i ∧ i < n) (hr : w r i = r') (k : WP sh d mi pc' ls (vR r' :: st) w Q) : WP sh d mi pc ls (vI i :: vR r :: st) w Q := by
  subst hp hr
  exact wp_of h rfl rfl rfl (by simp only [step1, ld_in hs hk hi]) k
theorem wp_ialoadO {r i : Int} (h : rowOf mi pc = some (pc0, .iaload, len, x, pos)) (hp : pc + len = pc') (h0 : r < 0) (hk : [-2, -4, -5].contains r = true) (hi : 0 ≤ i ∧ i < w r (-1)) (k : WP sh d mi pc' ls (vI (w r i) :: st) w Q) : WP sh d mi pc ls (vI i :: vR r :: st) w Q := by
  subst hp
  exact wp_of h rfl rfl rfl (by simp only [step1, ld_ro (ks := [1]) h0 hk hi]) k
theorem wp_caloadO {i : Int} (h : rowOf mi pc = some (pc0, .caload, len, x, pos)) (hp : pc + len = pc') (hi : 0 ≤ i ∧ i < w (-3) (-1)) (k : WP sh d mi pc' ls (vI (w (-3) i) :: st) w Q) : WP sh d mi pc ls (vI i :: vR (-3) :: st) w Q := by
  subst hp
  exact wp_of h rfl rfl rfl (by simp only [step1, ld_ro (ks := []) (rs := [-3]) (r := -3) (by decide) rfl hi]) k
theorem wp_iastore {r i a : Int} {n : Nat} (h : rowOf mi pc = some (pc0, .iastore, len, x, pos)) (hp : pc + len = pc') (hs : shAt sh r = some (1, n)) (hi : 0 ≤ i ∧ i < n) (k : WP sh d mi pc' ls st (up w r i a) Q) : WP sh d mi pc ls (vI a :: vI i :: vR r :: st) w Q := by
  subst hp
  exact wp_of h rfl rfl rfl (by simp only [step1]; rw [if_pos (st_in hs rfl hi)]) k
theorem wp_lastore {r i a : Int} {n : Nat} (h : rowOf mi pc = some (pc0, .lastore, len, x, pos)) (hp : pc + len = pc') (hs : shAt sh r = some (2, n)) (hi : 0 ≤ i ∧ i < n) (k : WP sh d mi pc' ls st (up w r i a) Q) : WP sh d mi pc ls (vL a :: vI i :: vR r :: st) w Q := by
  subst hp
  exact wp_of h rfl rfl rfl (by simp only [step1]; rw [if_pos (st_in hs rfl hi)]) k
theorem wp_bastoreB {r i a : Int} {n : Nat} (h : rowOf mi pc = some (pc0, .bastore, len, x, pos)) (hp : pc + len = pc') (hs : shAt sh r = some (3, n)) (hi : 0 ≤ i ∧ i < n) (k : WP sh d mi pc' ls st (up w r i (iB a)) Q) : WP sh d mi pc ls (vI a :: vI i :: vR r :: st) w Q := by
  subst hp
  exact wp_of h rfl rfl rfl (by simp only [step1]; rw [if_pos (st_in hs rfl hi)]) k
theorem wp_bastoreZ {r i a : Int} {n : Nat} (h : rowOf mi pc = some (pc0, .bastore, len, x, pos)) (hp : pc + len = pc') (hs : shAt sh r = some (4, n)) (hi : 0 ≤ i ∧ i < n) (hz : a = 0 ∨ a = 1) (k : WP sh d mi pc' ls st (up w r i a) Q) : WP sh d mi pc ls (vI a :: vI i :: vR r :: st) w Q := by
  subst hp
  exact wp_of h rfl rfl rfl (by simp only [step1]; rw [if_neg (by unfold stArr; simp [hs]), if_pos ⟨st_in hs rfl hi, hz⟩]) k
theorem wp_alen {r : Int} {k0 n : Nat} (h : rowOf mi pc = some (pc0, .arraylength, len, x, pos)) (hp : pc + len = pc') (hs : shAt sh r = some (k0 + 1, n)) (hn : n < 2147483648) (k : WP sh d mi pc' ls (vI n :: st) w Q) : WP sh d mi pc ls (vR r :: st) w Q := by
  subst hp
  refine wp_of h rfl rfl rfl ?_ k
  unfold shAt at hs
  split at hs
  · rename_i h0
    simp only [step1, if_pos h0, hs, if_pos hn]
  · cases hs
theorem wp_alenO {r : Int} (h : rowOf mi pc = some (pc0, .arraylength, len, x, pos)) (hp : pc + len = pc') (hr : (r = -2 ∨ r = -3 ∨ r = -4 ∨ r = -5) ∧ 0 ≤ w r (-1)) (k : WP sh d mi pc' ls (vI (w r (-1)) :: st) w Q) : WP sh d mi pc ls (vR r :: st) w Q := by
  subst hp
  refine wp_of h rfl rfl rfl ?_ k
  simp only [step1]
  rw [if_neg (by omega), if_pos hr]
theorem wp_max {a b c : Int} {i : Nat} (h : rowOf mi pc = some (pc0, .invokestatic i, len, -3, pos)) (hp : pc + len = pc') (hl : st.length ≤ 4) (hc : (if a < b then b else a) = c) (k : WP sh d mi pc' ls (vI c :: st) w Q) : WP sh d mi pc ls (vI b :: vI a :: st) w Q := by
  subst hp hc
  exact wp_of h (by simp [callOf]) rfl rfl (by simp only [step1]; rw [if_neg (by decide), if_pos trivial, if_pos hl]) k
theorem wp_min {a b c : Int} {i : Nat} (h : rowOf mi pc = some (pc0, .invokestatic i, len, -4, pos)) (hp : pc + len = pc') (hl : st.length ≤ 4) (hc : (if b < a then b else a) = c) (k : WP sh d mi pc' ls (vI c :: st) w Q) : WP sh d mi pc ls (vI b :: vI a :: st) w Q := by
  subst hp hc
  exact wp_of h (by simp [callOf]) rfl rfl (by simp only [step1]; rw [if_neg (by decide), if_neg (by decide), if_pos trivial, if_pos hl]) k
theorem wp_abs {a c : Int} {i : Nat} (h : rowOf mi pc = some (pc0, .invokestatic i, len, -5, pos)) (hp : pc + len = pc') (hl : st.length ≤ 4) (hc : (if 0 ≤ a then a else w32 (0 - a)) = c) (k : WP sh d mi pc' ls (vI c :: st) w Q) : WP sh d mi pc ls (vI a :: st) w Q := by
  subst hp hc
  exact wp_of h (by simp [callOf]) rfl rfl (by simp only [step1]; rw [if_neg (by decide), if_neg (by decide), if_neg (by decide), if_pos trivial, if_pos hl]) k
theorem wp_copy {sr d0 n sp dp : Int} {n0 n1 i : Nat} (h : rowOf mi pc = some (pc0, .invokestatic i, len, -2, pos)) (hp : pc + len = pc') (hs : shAt sh sr = some (1, n0)) (hd : shAt sh d0 = some (1, n1)) (hc : 0 ≤ n ∧ 0 ≤ sp ∧ 0 ≤ dp ∧ sp + n ≤ n0 ∧ dp + n ≤ n1 ∧ st.length ≤ 4) (k : WP sh d mi pc' ls st (fun a j => if a = d0 ∧ dp ≤ j ∧ j < dp + n then w sr (sp + (j - dp)) else w a j) Q) : WP sh d mi pc ls (vI n :: vI dp :: vR d0 :: vI sp :: vR sr :: st) w Q := by
  subst hp
  exact wp_of h (by simp [callOf]) rfl rfl (by simp only [step1]; rw [if_pos trivial]; simp only [hs, hd]; rw [if_pos hc]) k
end WPR
