/-! locals, fields, arrays of the pure machine against the kit's rows -/
theorem lrel_get {ro : Int → Option Nat} {ws : va_W} {nL : Nat} {ls : Array Slot} {pls : PL} (h : lrel ro ws nL ls pls) {i : Nat} {pv : PV} (hi : pls[i]? = some (some pv)) : ∃ v, ls[i]? = some (.val v) ∧ vrel ro ws v pv := by
  obtain ⟨lv, h1, h2, h3⟩ := h
  obtain ⟨v, q1, q2⟩ := h3 i pv hi
  exact ⟨v, h1.2.2 _ q1, q2⟩
def isL (pv : PV) : Bool := match pv with
  | Sum.inr (Sum.inl _) => true
  | _ => false
theorem vrel_cat {ro : Int → Option Nat} {ws : va_W} {v : Value} : ∀ {pv : PV}, vrel ro ws v pv → isL pv = false → v.category = 1
  | Sum.inl _, ⟨c, h, _⟩, _ => by rw [h]; rfl
  | Sum.inr (Sum.inl _), _, h => by cases h
  | Sum.inr (Sum.inr _), h, _ => by rcases h with ⟨-, h⟩ | ⟨-, a, h, -⟩ <;> rw [h] <;> rfl
theorem lset_spec {pls : PL} {i : Nat} {pv : PV} {j : Nat} {q : PV} (h : (lset pls i pv)[j]? = some (some q)) : (j = i ∧ q = pv) ∨ (j ≠ i ∧ pls[j]? = some (some q) ∧ ¬ (j + 1 = i ∧ isL q = true)) := by
  have base : ∀ j : Nat, (pls.set i (some pv))[j]? = some (some q) → (j = i ∧ q = pv) ∨ (j ≠ i ∧ pls[j]? = some (some q)) := by
    intro j hj
    by_cases hji : j = i
    · subst hji
      rw [List.getElem?_set] at hj
      simp only [if_true] at hj
      split at hj
      · cases hj
        exact Or.inl ⟨rfl, rfl⟩
      · cases hj
    · rw [List.getElem?_set_ne (fun z => hji z.symm)] at hj
      exact Or.inr ⟨hji, hj⟩
  cases i with
  | zero =>
    rcases base j h with h | ⟨h1, h2⟩
    · exact Or.inl h
    · exact Or.inr ⟨h1, h2, fun z => by omega⟩
  | succ i =>
    unfold lset at h
    simp only at h
    split at h
    · rename_i a ha
      by_cases hji : j = i
      · subst hji
        rw [List.getElem?_set] at h
        simp only [if_true] at h
        split at h <;> cases h
      · rw [List.getElem?_set_ne (fun z => hji z.symm)] at h
        rcases base j h with h | ⟨h1, h2⟩
        · exact Or.inl h
        · exact Or.inr ⟨h1, h2, fun z => by omega⟩
    · rename_i hno
      rcases base j h with h' | ⟨h1, h2⟩
      · exact Or.inl h'
      · refine Or.inr ⟨h1, h2, fun z => ?_⟩
        obtain ⟨z1, z2⟩ := z
        have hj : j = i := by omega
        subst hj
        match q, z2, h with
        | Sum.inr (Sum.inl a), _, h => exact hno a h
theorem lset_len (pls : PL) (i : Nat) (pv : PV) : (lset pls i pv).length = pls.length := by
  unfold lset
  simp only
  split
  · simp
  · split <;> simp
theorem lrel_set1 {ro : Int → Option Nat} {ws : va_W} {nL : Nat} {ls' : Array Slot} {pls : PL} {lv : List (Nat × Value)} {i : Nat} {v : Value} {pv : PV} (hlen : pls.length = nL) (hr : ∀ (i : Nat) (pv : PV), pls[i]? = some (some pv) → ∃ v, (i, v) ∈ lv ∧ vrel ro ws v pv) (hv : vrel ro ws v pv)
    (h : lv_has ls' nL ((i, v) :: lv.filter (fun q => !(q.1 == i) && !(q.1 + 1 == i && q.2.category == 2)))) : lrel ro ws nL ls' (lset pls i pv) := by
  refine ⟨_, h, by rw [lset_len]; exact hlen, fun j q hj => ?_⟩
  rcases lset_spec hj with ⟨rfl, rfl⟩ | ⟨h1, h2, h3⟩
  · exact ⟨v, List.mem_cons_self, hv⟩
  · obtain ⟨v', m1, m2⟩ := hr j q h2
    refine ⟨v', List.mem_cons_of_mem _ (List.mem_filter.mpr ⟨m1, ?_⟩), m2⟩
    by_cases hji : j + 1 = i
    · have hq : isL q = false := by
        cases hq : isL q with
        | false => rfl
        | true => exact absurd ⟨hji, hq⟩ h3
      have hc := vrel_cat m2 hq
      simp [h1, hc]
    · simp [h1, hji]
theorem lrel_set2 {ro : Int → Option Nat} {ws : va_W} {nL : Nat} {ls' : Array Slot} {pls : PL} {lv : List (Nat × Value)} {i : Nat} {v : Value} {pv : PV} (hlen : pls.length = nL) (hr : ∀ (i : Nat) (pv : PV), pls[i]? = some (some pv) → ∃ v, (i, v) ∈ lv ∧ vrel ro ws v pv) (hv : vrel ro ws v pv)
    (h : lv_has ls' nL ((i, v) :: lv.filter (fun q => !(q.1 == i) && (!(q.1 == i + 1) && !(q.1 + 1 == i && q.2.category == 2))))) : lrel ro ws nL ls' (lset2 pls i pv) := by
  refine ⟨_, h, by unfold lset2; rw [List.length_set, lset_len]; exact hlen, fun j q hj => ?_⟩
  unfold lset2 at hj
  by_cases hj1 : j = i + 1
  · subst hj1
    rw [List.getElem?_set] at hj
    simp only [if_true] at hj
    split at hj <;> cases hj
  rw [List.getElem?_set_ne (fun z => hj1 z.symm)] at hj
  rcases lset_spec hj with ⟨rfl, rfl⟩ | ⟨h1, h2, h3⟩
  · exact ⟨v, List.mem_cons_self, hv⟩
  · obtain ⟨v', m1, m2⟩ := hr j q h2
    refine ⟨v', List.mem_cons_of_mem _ (List.mem_filter.mpr ⟨m1, ?_⟩), m2⟩
    by_cases hji : j + 1 = i
    · have hq : isL q = false := by
        cases hq : isL q with
        | false => rfl
        | true => exact absurd ⟨hji, hq⟩ h3
      have hc := vrel_cat m2 hq
      simp [h1, hj1, hc]
    · simp [h1, hj1, hji]
/-- the cell that a reference names -/
theorem cell_at {ro : Int → Option Nat} {tys : List (ClassId × FieldType)} {ws : va_W} {sh : Shp} {w : Hp} (hw : wrel ro tys ws sh w) {r : Int} {sp : Nat × Nat} {v : Value} (hs : shAt sh r = some sp) (hv : rrel ro ws v r) : ∃ (a : Nat) (e : va_E), v = .ref a ∧ 0 ≤ r ∧ sh[r.toNat]? = some sp ∧ ws[r.toNat]? = some (a, e) ∧ crel ro ws tys sp e (w r) := by
  unfold shAt at hs
  split at hs
  · rename_i h0
    rcases hv with ⟨z, -⟩ | ⟨-, a, rfl, ha⟩
    · omega
    · unfold adr at ha
      rw [if_pos h0] at ha
      cases hk : ws[r.toNat]? with
      | none => rw [hk] at ha; cases ha
      | some x =>
        rw [hk] at ha
        cases ha
        have h1 := hw.2 _ _ _ hs hk
        rw [show ((r.toNat : Nat) : Int) = r by omega] at h1
        exact ⟨x.1, x.2, rfl, h0, hs, rfl, h1⟩
  · cases hs
theorem up_ne {w : Hp} {r i x : Int} {k : Int} (h : k ≠ r) : up w r i x k = w k := by
  funext j
  unfold up
  rw [if_neg (fun z => h z.1)]
theorem up_neg {w : Hp} {r i x : Int} (h0 : 0 ≤ r) : ∀ a : Int, a < 0 → up w r i x a = w a := fun a ha => up_ne (by omega)
theorem untag_tagd {k : Nat} {pv : PV} {z : Int} (h : untag k pv = some z) : tagd k z = some pv := by
  unfold untag at h
  split at h
  · cases h; rfl
  · cases h; rfl
  · cases h; rfl
  · split at h
    · cases h; rfl
    · cases h
  · cases h
theorem ci_cl {ci : Nat} (h : ci < 11) : ClsOk ci := cls_all ci h
section SIM
variable {p : Program} {l : Launch} {e : Env} {R : Room} {s : State} {m : MethodId} {args : Array Value} {below : List Frame} {meth : Method} {c : Code} {Q : State → Prop} {D : va_G} {base L : Nat} {xs : Nat → Int32} {ro : Int → Option Nat} {mi : Nat} {ws0 : va_W} {cells slots : Nat} {pc : Nat} {pls : PL} {pst : List PV} {sh : Shp} {w : Hp}
theorem sm_iload_n (C : Cx p s m args meth c base L xs ro mi) {k0 : Fin 4} {a : Int} (hg : pls[k0.val]? = some (some (vI a))) (hd : decode (cOf mi) pc = .ok (.iload_n k0, 1)) (k : Sm p l e R s m args below meth c Q D base L xs ro mi ws0 cells slots (pc + 1) pls (vI a :: pst) sh w) : Sm p l e R s m args below meth c Q D base L xs ro mi ws0 cells slots pc pls (pst) sh w := by
  intro H locs ls st ws tys he hK hP hD hS hRW hw hl hs
  obtain ⟨hx, hb, hml, hown, hts, hini, hbs, hL, hE⟩ := C
  obtain ⟨v, hv, ⟨c1, rfl, h1⟩⟩ := lrel_get hl hg
  refine lv_iload_n hx hb hd rfl hv ?_
  exact k H locs ls _ ws tys he hK hP hD hS hRW hw hl ⟨⟨c1, rfl, h1⟩, hs⟩
theorem sm_lload_n (C : Cx p s m args meth c base L xs ro mi) {k0 : Fin 4} {a : Int} (hg : pls[k0.val]? = some (some (vL a))) (hd : decode (cOf mi) pc = .ok (.lload_n k0, 1)) (k : Sm p l e R s m args below meth c Q D base L xs ro mi ws0 cells slots (pc + 1) pls (vL a :: pst) sh w) : Sm p l e R s m args below meth c Q D base L xs ro mi ws0 cells slots pc pls (pst) sh w := by
  intro H locs ls st ws tys he hK hP hD hS hRW hw hl hs
  obtain ⟨hx, hb, hml, hown, hts, hini, hbs, hL, hE⟩ := C
  obtain ⟨v, hv, ⟨c1, rfl, h1⟩⟩ := lrel_get hl hg
  refine lv_lload_n hx hb hd rfl hv ?_
  exact k H locs ls _ ws tys he hK hP hD hS hRW hw hl ⟨⟨c1, rfl, h1⟩, hs⟩
theorem sm_aload_n (C : Cx p s m args meth c base L xs ro mi) {k0 : Fin 4} {r : Int} (hr : ¬ r = -1) (hg : pls[k0.val]? = some (some (vR r))) (hd : decode (cOf mi) pc = .ok (.aload_n k0, 1)) (k : Sm p l e R s m args below meth c Q D base L xs ro mi ws0 cells slots (pc + 1) pls (vR r :: pst) sh w) : Sm p l e R s m args below meth c Q D base L xs ro mi ws0 cells slots pc pls (pst) sh w := by
  intro H locs ls st ws tys he hK hP hD hS hRW hw hl hs
  obtain ⟨hx, hb, hml, hown, hts, hini, hbs, hL, hE⟩ := C
  obtain ⟨v, hv, h1⟩ := lrel_get hl hg
  rcases h1 with ⟨z, -⟩ | ⟨h0, a, rfl, ha⟩
  · exact absurd z hr
  refine lv_aload_n hx hb hd rfl hv ?_
  exact k H locs ls _ ws tys he hK hP hD hS hRW hw hl ⟨Or.inr ⟨h0, a, rfl, ha⟩, hs⟩
theorem sm_istore_n (C : Cx p s m args meth c base L xs ro mi) {k0 : Fin 4} {a : Int} (hk : k0.val < pls.length) (hd : decode (cOf mi) pc = .ok (.istore_n k0, 1)) (k : Sm p l e R s m args below meth c Q D base L xs ro mi ws0 cells slots (pc + 1) (lset pls k0.val (vI a)) pst sh w) : Sm p l e R s m args below meth c Q D base L xs ro mi ws0 cells slots pc pls (vI a :: pst) sh w := by
  intro H locs ls st ws tys he hK hP hD hS hRW hw hl hs
  obtain ⟨hx, hb, hml, hown, hts, hini, hbs, hL, hE⟩ := C
  have hs' := srel_cons hs
  clear hs
  obtain ⟨v1, st, rfl, ⟨c1, rfl, h1⟩, hs⟩ := hs'
  obtain ⟨lv, g1, g2, g3⟩ := hl
  refine lv_istore_n hx hb hd rfl g1 (by omega) rfl (fun ls' hl' => ?_)
  exact k H locs ls' _ ws tys he hK hP hD hS hRW hw (lrel_set1 g2 g3 ⟨c1, rfl, h1⟩ hl') hs
theorem sm_lstore_n (C : Cx p s m args meth c base L xs ro mi) {k0 : Fin 4} {a : Int} (hk : k0.val + 1 < pls.length) (hd : decode (cOf mi) pc = .ok (.lstore_n k0, 1)) (k : Sm p l e R s m args below meth c Q D base L xs ro mi ws0 cells slots (pc + 1) (lset2 pls k0.val (vL a)) pst sh w) : Sm p l e R s m args below meth c Q D base L xs ro mi ws0 cells slots pc pls (vL a :: pst) sh w := by
  intro H locs ls st ws tys he hK hP hD hS hRW hw hl hs
  obtain ⟨hx, hb, hml, hown, hts, hini, hbs, hL, hE⟩ := C
  have hs' := srel_cons hs
  clear hs
  obtain ⟨v1, st, rfl, ⟨c1, rfl, h1⟩, hs⟩ := hs'
  obtain ⟨lv, g1, g2, g3⟩ := hl
  refine lv_lstore_n hx hb hd rfl g1 (by omega) rfl (fun ls' hl' => ?_)
  exact k H locs ls' _ ws tys he hK hP hD hS hRW hw (lrel_set2 g2 g3 ⟨c1, rfl, h1⟩ hl') hs
theorem sm_iload (C : Cx p s m args meth c base L xs ro mi) {k0 : Nat} {a : Int} (hg : pls[k0]? = some (some (vI a))) (hd : decode (cOf mi) pc = .ok (.iload k0, 2)) (k : Sm p l e R s m args below meth c Q D base L xs ro mi ws0 cells slots (pc + 2) pls (vI a :: pst) sh w) : Sm p l e R s m args below meth c Q D base L xs ro mi ws0 cells slots pc pls (pst) sh w := by
  intro H locs ls st ws tys he hK hP hD hS hRW hw hl hs
  obtain ⟨hx, hb, hml, hown, hts, hini, hbs, hL, hE⟩ := C
  obtain ⟨v, hv, ⟨c1, rfl, h1⟩⟩ := lrel_get hl hg
  refine lv_iload hx hb hd hv ?_
  exact k H locs ls _ ws tys he hK hP hD hS hRW hw hl ⟨⟨c1, rfl, h1⟩, hs⟩
theorem sm_lload (C : Cx p s m args meth c base L xs ro mi) {k0 : Nat} {a : Int} (hg : pls[k0]? = some (some (vL a))) (hd : decode (cOf mi) pc = .ok (.lload k0, 2)) (k : Sm p l e R s m args below meth c Q D base L xs ro mi ws0 cells slots (pc + 2) pls (vL a :: pst) sh w) : Sm p l e R s m args below meth c Q D base L xs ro mi ws0 cells slots pc pls (pst) sh w := by
  intro H locs ls st ws tys he hK hP hD hS hRW hw hl hs
  obtain ⟨hx, hb, hml, hown, hts, hini, hbs, hL, hE⟩ := C
  obtain ⟨v, hv, ⟨c1, rfl, h1⟩⟩ := lrel_get hl hg
  refine lv_lload hx hb hd hv ?_
  exact k H locs ls _ ws tys he hK hP hD hS hRW hw hl ⟨⟨c1, rfl, h1⟩, hs⟩
theorem sm_aload (C : Cx p s m args meth c base L xs ro mi) {k0 : Nat} {r : Int} (hr : ¬ r = -1) (hg : pls[k0]? = some (some (vR r))) (hd : decode (cOf mi) pc = .ok (.aload k0, 2)) (k : Sm p l e R s m args below meth c Q D base L xs ro mi ws0 cells slots (pc + 2) pls (vR r :: pst) sh w) : Sm p l e R s m args below meth c Q D base L xs ro mi ws0 cells slots pc pls (pst) sh w := by
  intro H locs ls st ws tys he hK hP hD hS hRW hw hl hs
  obtain ⟨hx, hb, hml, hown, hts, hini, hbs, hL, hE⟩ := C
  obtain ⟨v, hv, h1⟩ := lrel_get hl hg
  rcases h1 with ⟨z, -⟩ | ⟨h0, a, rfl, ha⟩
  · exact absurd z hr
  refine lv_aload hx hb hd hv ?_
  exact k H locs ls _ ws tys he hK hP hD hS hRW hw hl ⟨Or.inr ⟨h0, a, rfl, ha⟩, hs⟩
theorem sm_istore (C : Cx p s m args meth c base L xs ro mi) {k0 : Nat} {a : Int} (hk : k0 < pls.length) (hd : decode (cOf mi) pc = .ok (.istore k0, 2)) (k : Sm p l e R s m args below meth c Q D base L xs ro mi ws0 cells slots (pc + 2) (lset pls k0 (vI a)) pst sh w) : Sm p l e R s m args below meth c Q D base L xs ro mi ws0 cells slots pc pls (vI a :: pst) sh w := by
  intro H locs ls st ws tys he hK hP hD hS hRW hw hl hs
  obtain ⟨hx, hb, hml, hown, hts, hini, hbs, hL, hE⟩ := C
  have hs' := srel_cons hs
  clear hs
  obtain ⟨v1, st, rfl, ⟨c1, rfl, h1⟩, hs⟩ := hs'
  obtain ⟨lv, g1, g2, g3⟩ := hl
  refine lv_istore hx hb hd g1 (by omega) rfl (fun ls' hl' => ?_)
  exact k H locs ls' _ ws tys he hK hP hD hS hRW hw (lrel_set1 g2 g3 ⟨c1, rfl, h1⟩ hl') hs
theorem sm_lstore (C : Cx p s m args meth c base L xs ro mi) {k0 : Nat} {a : Int} (hk : k0 + 1 < pls.length) (hd : decode (cOf mi) pc = .ok (.lstore k0, 2)) (k : Sm p l e R s m args below meth c Q D base L xs ro mi ws0 cells slots (pc + 2) (lset2 pls k0 (vL a)) pst sh w) : Sm p l e R s m args below meth c Q D base L xs ro mi ws0 cells slots pc pls (vL a :: pst) sh w := by
  intro H locs ls st ws tys he hK hP hD hS hRW hw hl hs
  obtain ⟨hx, hb, hml, hown, hts, hini, hbs, hL, hE⟩ := C
  have hs' := srel_cons hs
  clear hs
  obtain ⟨v1, st, rfl, ⟨c1, rfl, h1⟩, hs⟩ := hs'
  obtain ⟨lv, g1, g2, g3⟩ := hl
  refine lv_lstore hx hb hd g1 (by omega) rfl (fun ls' hl' => ?_)
  exact k H locs ls' _ ws tys he hK hP hD hS hRW hw (lrel_set2 g2 g3 ⟨c1, rfl, h1⟩ hl') hs
theorem sm_astore_n (C : Cx p s m args meth c base L xs ro mi) {k0 : Fin 4} {r : Int} (hr : ¬ r = -1) (hk : k0.val < pls.length) (hd : decode (cOf mi) pc = .ok (.astore_n k0, 1)) (k : Sm p l e R s m args below meth c Q D base L xs ro mi ws0 cells slots (pc + 1) (lset pls k0.val (vR r)) pst sh w) : Sm p l e R s m args below meth c Q D base L xs ro mi ws0 cells slots pc pls (vR r :: pst) sh w := by
  intro H locs ls st ws tys he hK hP hD hS hRW hw hl hs
  obtain ⟨hx, hb, hml, hown, hts, hini, hbs, hL, hE⟩ := C
  have hs' := srel_cons hs
  clear hs
  obtain ⟨v1, st, rfl, h1, hs⟩ := hs'
  rcases h1 with ⟨z, -⟩ | ⟨h0, a, rfl, ha⟩
  · exact absurd z hr
  obtain ⟨lv, g1, g2, g3⟩ := hl
  refine lv_astore_n hx hb hd rfl g1 (by omega) rfl (fun ls' hl' => ?_)
  exact k H locs ls' _ ws tys he hK hP hD hS hRW hw (lrel_set1 g2 g3 (Or.inr ⟨h0, a, rfl, ha⟩) hl') hs
theorem sm_iinc (C : Cx p s m args meth c base L xs ro mi) {k0 : Nat} {a n : Int} (hg : pls[k0]? = some (some (vI a))) (hd : decode (cOf mi) pc = .ok (.iinc k0 n, 3)) (k : Sm p l e R s m args below meth c Q D base L xs ro mi ws0 cells slots (pc + 3) (lset pls k0 (vI (w32 (a + w32 n)))) pst sh w) : Sm p l e R s m args below meth c Q D base L xs ro mi ws0 cells slots pc pls (pst) sh w := by
  intro H locs ls st ws tys he hK hP hD hS hRW hw hl hs
  obtain ⟨hx, hb, hml, hown, hts, hini, hbs, hL, hE⟩ := C
  obtain ⟨lv, g1, g2, g3⟩ := hl
  obtain ⟨v, hv, ⟨c1, rfl, h1⟩⟩ := g3 _ _ hg
  obtain ⟨i, hi⟩ := List.mem_iff_getElem?.mp hv
  have hlt : k0 < pls.length := (List.getElem?_eq_some_iff.mp hg).1
  subst h1
  refine lv_iinc hx hb hd g1 hi rfl (by omega) rfl (fun ls' hl' => ?_)
  exact k H locs ls' _ ws tys he hK hP hD hS hRW hw (lrel_set1 g2 g3 ⟨_, rfl, by rw [Int32.toInt_add, Int32.toInt_ofInt]; rfl⟩ hl') hs
theorem sm_getfield (C : Cx p s m args meth c base L xs ro mi) {r x : Int} {idx : Nat} {v : PV} (hsx : shAt sh r = some (0, (x / 100).toNat)) (hn : (x % 100).toNat < NT (x / 100).toNat ∧ (x / 100).toNat < 11 ∧ 0 ≤ x) (hm : Cond.fieldLink (oOf mi) idx (FT (x / 100).toNat (x % 100).toNat).1 (FT (x / 100).toNat (x % 100).toNat).2.1 (FT (x / 100).toNat (x % 100).toNat).2.2.1 ∈ WT) (ht : tagd (fk (x / 100).toNat (x % 100).toNat) (w r (x % 100)) = some v) (hd : decode (cOf mi) pc = .ok (.getfield idx, 3)) (k : Sm p l e R s m args below meth c Q D base L xs ro mi ws0 cells slots (pc + 3) pls (v :: pst) sh w) : Sm p l e R s m args below meth c Q D base L xs ro mi ws0 cells slots pc pls (vR r :: pst) sh w := by
  intro H locs ls st ws tys he hK hP hD hS hRW hw hl hs
  obtain ⟨hx, hb, hml, hown, hts, hini, hbs, hL, hE⟩ := C
  have hs' := srel_cons hs
  clear hs
  obtain ⟨v1, st, rfl, h1, hs⟩ := hs'
  obtain ⟨a, e0, rfl, h0, hsr, hwr, fs, rfl, hci, hlen, hfs⟩ := cell_at hw hsx h1
  obtain ⟨T, ty, hcl, hT, hin, hty, hnm, -⟩ := cls_all _ hci
  have hk : (x % 100).toNat < fs.length := by rw [hlen]; exact hn.1
  obtain ⟨pv, q1, q2⟩ := hfs _ _ (List.getElem?_eq_getElem hk)
  rw [show (((x % 100).toNat : Nat) : Int) = x % 100 by omega] at q1
  rw [show (w r (x % 100)) = w r (x % 100) from rfl] at q1
  have hpv : pv = v := Option.some.inj (q1.symm.trans ht)
  subst hpv
  refine va_get (ref := (T (x % 100).toNat).1) hx hb hts hin hown hK hP r.toNat hwr hcl (x % 100).toNat hn.1 (by rw [hT]; exact hts _ hm) (fun _ h => h) (List.getElem?_eq_getElem hk) hd ?_
  exact k H locs ls _ ws tys he hK hP hD hS hRW hw hl ⟨q2, hs⟩
theorem sm_putfield (C : Cx p s m args meth c base L xs ro mi) {r x z : Int} {idx : Nat} {pv : PV} (hsx : shAt sh r = some (0, (x / 100).toNat)) (hn : (x % 100).toNat < NT (x / 100).toNat ∧ (x / 100).toNat < 11 ∧ 0 ≤ x) (hm : Cond.fieldLink (oOf mi) idx (FT (x / 100).toNat (x % 100).toNat).1 (FT (x / 100).toNat (x % 100).toNat).2.1 (FT (x / 100).toNat (x % 100).toNat).2.2.1 ∈ WT) (hf : (FT (x / 100).toNat (x % 100).toNat).2.2.2 = true → mKind mi = 2 ∧ (FT (x / 100).toNat (x % 100).toNat).1 = oOf mi) (ht : untag (fk (x / 100).toNat (x % 100).toNat) pv = some z) (hd : decode (cOf mi) pc = .ok (.putfield idx, 3)) (k : Sm p l e R s m args below meth c Q D base L xs ro mi ws0 cells slots (pc + 3) pls pst sh (up w r (x % 100) z)) : Sm p l e R s m args below meth c Q D base L xs ro mi ws0 cells slots pc pls (pv :: vR r :: pst) sh w := by
  intro H locs ls st ws tys he hK hP hD hS hRW hw hl hs
  obtain ⟨hx, hb, hml, hown, hts, hini, hbs, hL, hE⟩ := C
  have hs' := srel_cons hs
  clear hs
  obtain ⟨v0, st, rfl, hv0, hs⟩ := hs'
  have hs' := srel_cons hs
  clear hs
  obtain ⟨v1, st, rfl, h1, hs⟩ := hs'
  obtain ⟨a, e0, rfl, h0, hsr, hwr, fs, rfl, hci, hlen, hfs⟩ := cell_at hw hsx h1
  obtain ⟨T, ty, hcl, hT, hin, hty, hnm, hi1, hi2, hkd⟩ := cls_all _ hci
  have hk : (x % 100).toNat < fs.length := by rw [hlen]; exact hn.1
  have hxx : (((x % 100).toNat : Nat) : Int) = x % 100 := by omega
  have hnf : narrow (ty (x % 100).toNat) v0 = v0 ∧ fits (ty (x % 100).toNat) v0 = true := by
    rcases hkd _ hn.1 with ⟨f1, f2⟩ | ⟨f1, f2⟩ | ⟨f1, f2⟩ | ⟨f1, f2⟩
    · rw [f1] at ht
      match pv, ht, hv0 with
      | Sum.inl _, _, ⟨c1, h, _⟩ => rw [f2, h]; exact ⟨rfl, rfl⟩
    · rw [f1] at ht
      match pv, ht, hv0 with
      | Sum.inr (Sum.inl _), _, ⟨c1, h, _⟩ => rw [f2, h]; exact ⟨rfl, rfl⟩
    · rw [f1] at ht
      match pv, ht, hv0 with
      | Sum.inr (Sum.inr _), _, hh =>
        generalize ty (x % 100).toNat = tt at f2 ⊢
        rcases hh with ⟨-, h⟩ | ⟨-, a, h, -⟩ <;> rw [h] <;> cases tt <;> first | exact ⟨rfl, rfl⟩ | cases f2
    · rw [f1] at ht
      match pv, ht, hv0 with
      | Sum.inl y, ht, ⟨c1, h, h'⟩ =>
        rw [f2, h]
        unfold untag at ht
        simp only at ht
        split at ht
        · rename_i hy
          rcases hy with hy | hy
          · have : c1 = 0 := eq32.mpr (by rw [h', hy]; rfl)
            subst this
            exact ⟨rfl, rfl⟩
          · have : c1 = 1 := eq32.mpr (by rw [h', hy]; rfl)
            subst this
            exact ⟨rfl, rfl⟩
        · cases ht
  have fin : ∀ (H1 : Heap) (locs1 : List Loc), va_P D vwCl (ws.set r.toNat (a, .inr ((x / 100).toNat, fs.set (x % 100).toNat v0))) H1 → va_D (fun q => base ≤ q) (ws.set r.toNat (a, .inr ((x / 100).toNat, fs.set (x % 100).toNat v0))) → va_S (fun q => base ≤ q) s.heap H1 locs1 → W p l e R s m args below meth c H1 locs1 cells slots Q (F0 m (pc + 3) ls st) := by
    intro H1 locs1 hP1 hD1 hS1
    have hxt : ext ws (ws.set r.toNat (a, .inr ((x / 100).toNat, fs.set (x % 100).toNat v0))) := ext_set hwr
    refine k H1 locs1 ls st _ tys (ext_tr he hxt) hK hP1 hD1 hS1 (hRW.of (up_neg h0)) (wrel_set hw hwr hsr ?_ (fun k hk => up_ne (by omega))) (lrel_ext hxt hl) (srel_ext hxt hs)
    refine ⟨_, rfl, hci, by rw [List.length_set]; exact hlen, fun j v hj => ?_⟩
    rw [show ((r.toNat : Nat) : Int) = r by omega]
    by_cases hjk : j = (x % 100).toNat
    · subst hjk
      rw [List.getElem?_set_self hk] at hj
      cases hj
      refine ⟨pv, ?_, hv0⟩
      rw [hxx]
      unfold up
      rw [if_pos ⟨rfl, rfl⟩]
      exact untag_tagd ht
    · rw [List.getElem?_set_ne (fun z => hjk z.symm)] at hj
      obtain ⟨qv, q1, q2⟩ := hfs j v hj
      refine ⟨qv, ?_, q2⟩
      unfold up
      rw [if_neg (fun z => hjk (by omega))]
      exact q1
  cases hff : (FT (x / 100).toNat (x % 100).toNat).2.2.2 with
  | false => exact va_put (ref := (T (x % 100).toNat).1) hx hb hts hin ty hty hnm hown hK hP hD hS r.toNat hwr hcl (x % 100).toNat hn.1 (by rw [hT]; exact hts _ hm) (fun _ h => h) (by rw [hT]; exact hff) (hty _ hn.1) hnf.1 hnf.2 hk hd fin
  | true => exact va_putF (ref := (T (x % 100).toNat).1) hx hb hts hin ty hty hnm hown hK hP hD hS r.toNat hwr hcl (x % 100).toNat hn.1 (by rw [hT]; exact hts _ hm) (fun _ h => h) (by rw [hT]; exact hff) (hini (hf hff).1) (by rw [hT]; exact (hf hff).2) (hty _ hn.1) hnf.1 hnf.2 hk hd fin
end SIM
