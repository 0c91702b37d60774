/-! pure numbers and the machine's values: one relation for values, cells, worlds, locals, stacks -/
def adr (ro : Int → Option Nat) (ws : va_W) (r : Int) : Option Nat := if 0 ≤ r then (ws[r.toNat]?).map (fun e => e.1) else ro r
def rrel (ro : Int → Option Nat) (ws : va_W) (v : Value) (r : Int) : Prop := (r = -1 ∧ v = .null) ∨ (r ≠ -1 ∧ ∃ a, v = .ref a ∧ adr ro ws r = some a)
def vrel (ro : Int → Option Nat) (ws : va_W) (v : Value) (pv : PV) : Prop := match pv with
  | Sum.inl x => ∃ c : Int32, v = .int c ∧ c.toInt = x
  | Sum.inr (Sum.inl x) => ∃ c : Int64, v = .long c ∧ c.toInt = x
  | Sum.inr (Sum.inr r) => rrel ro ws v r
def frel (ro : Int → Option Nat) (ws : va_W) (k : Nat) (v : Value) (x : Int) : Prop := ∃ pv, tagd k x = some pv ∧ vrel ro ws v pv
def arI (tys : List (ClassId × FieldType)) (ty : FieldType) (n : Nat) (e : va_E) (f : Int → Int) : Prop := ∃ (cA : ClassId) (g : Nat → Int32) (t0 : Nat), e = .inl (cA, n, .inl g) ∧ tys[t0]? = some (cA, ty) ∧ ∀ j : Nat, j < n → (g j).toInt = f j
def arL (tys : List (ClassId × FieldType)) (n : Nat) (e : va_E) (f : Int → Int) : Prop := ∃ (cA : ClassId) (g : Nat → Int64) (t0 : Nat), e = .inl (cA, n, .inr (.inl g)) ∧ tys[t0]? = some (cA, .long) ∧ ∀ j : Nat, j < n → (g j).toInt = f j
def arR (ro : Int → Option Nat) (ws : va_W) (tys : List (ClassId × FieldType)) (ty : FieldType) (n : Nat) (e : va_E) (f : Int → Int) : Prop := ∃ (cA : ClassId) (g : Nat → Option Nat) (t0 : Nat), e = .inl (cA, n, .inr (.inr (.inr (.inr g)))) ∧ tys[t0]? = some (cA, ty) ∧ ∀ j : Nat, j < n → rrel ro ws (va_rf (g j)) (f j)
def crel (ro : Int → Option Nat) (ws : va_W) (tys : List (ClassId × FieldType)) (s : Nat × Nat) (e : va_E) (f : Int → Int) : Prop := match s.1 with
  | 0 => ∃ fs : List Value, e = .inr (s.2, fs) ∧ s.2 < 11 ∧ fs.length = NT s.2 ∧ ∀ (j : Nat) (v : Value), fs[j]? = some v → frel ro ws (fk s.2 j) v (f j)
  | 1 => arI tys .int s.2 e f
  | 2 => arL tys s.2 e f
  | 3 => arI tys .byte s.2 e f
  | 4 => arI tys .boolean s.2 e f
  | 5 => arR ro ws tys (.object "VotedHill$Strip") s.2 e f
  | 6 => arR ro ws tys (.object "VotedHill$Land") s.2 e f
  | 7 => arR ro ws tys (.array .int) s.2 e f
  | _ => False
def wrel (ro : Int → Option Nat) (tys : List (ClassId × FieldType)) (ws : va_W) (sh : Shp) (w : Hp) : Prop := ws.length = sh.length ∧ ∀ (k : Nat) (s : Nat × Nat) (e : Nat × va_E), sh[k]? = some s → ws[k]? = some e → crel ro ws tys s e.2 (w k)
def lrel (ro : Int → Option Nat) (ws : va_W) (nL : Nat) (ls : Array Slot) (pls : PL) : Prop := ∃ lv, lv_has ls nL lv ∧ pls.length = nL ∧ ∀ (i : Nat) (pv : PV), pls[i]? = some (some pv) → ∃ v, (i, v) ∈ lv ∧ vrel ro ws v pv
def srel (ro : Int → Option Nat) (ws : va_W) : List Value → List PV → Prop
  | [], [] => True
  | v :: vs, q :: qs => vrel ro ws v q ∧ srel ro ws vs qs
  | _, _ => False
/-- the same cells at the same addresses, and perhaps more -/
def ext (ws ws' : va_W) : Prop := ∀ (k : Nat) (e : Nat × va_E), ws[k]? = some e → ∃ e' : Nat × va_E, ws'[k]? = some e' ∧ e'.1 = e.1
theorem ext_rf (ws : va_W) : ext ws ws := fun _ e h => ⟨e, h, rfl⟩
theorem ext_tr {a b c : va_W} (h1 : ext a b) (h2 : ext b c) : ext a c := fun k e h => by
  obtain ⟨e1, q1, r1⟩ := h1 k e h
  obtain ⟨e2, q2, r2⟩ := h2 k e1 q1
  exact ⟨e2, q2, r2.trans r1⟩
theorem ext_app (a b : va_W) : ext a (a ++ b) := fun k e h => ⟨e, by rw [List.getElem?_append_left (List.getElem?_eq_some_iff.mp h).1]; exact h, rfl⟩
theorem ext_set {ws : va_W} {q a : Nat} {e0 e : va_E} (h : ws[q]? = some (a, e0)) : ext ws (ws.set q (a, e)) := by
  intro k x hk
  by_cases hq : q = k
  · subst hq
    refine ⟨(a, e), by rw [List.getElem?_set_self (List.getElem?_eq_some_iff.mp h).1], ?_⟩
    rw [h] at hk
    cases hk
    rfl
  · exact ⟨x, by rw [List.getElem?_set_ne hq]; exact hk, rfl⟩
theorem adr_ext {ro : Int → Option Nat} {ws ws' : va_W} (he : ext ws ws') {r : Int} {a : Nat} (h : adr ro ws r = some a) : adr ro ws' r = some a := by
  unfold adr at h ⊢
  by_cases h0 : 0 ≤ r
  · rw [if_pos h0] at h ⊢
    cases hk : ws[r.toNat]? with
    | none => rw [hk] at h; cases h
    | some x =>
      rw [hk] at h
      obtain ⟨e', q1, q2⟩ := he _ _ hk
      rw [q1]
      show some e'.1 = _
      rw [q2]
      exact h
  · rw [if_neg h0] at h ⊢
    exact h
theorem rrel_ext {ro : Int → Option Nat} {ws ws' : va_W} (he : ext ws ws') {v : Value} {r : Int} (h : rrel ro ws v r) : rrel ro ws' v r := by
  rcases h with h | ⟨h1, a, h2, h3⟩
  · exact Or.inl h
  · exact Or.inr ⟨h1, a, h2, adr_ext he h3⟩
theorem vrel_ext {ro : Int → Option Nat} {ws ws' : va_W} (he : ext ws ws') {v : Value} : ∀ {pv : PV}, vrel ro ws v pv → vrel ro ws' v pv
  | Sum.inl _, h => h
  | Sum.inr (Sum.inl _), h => h
  | Sum.inr (Sum.inr _), h => rrel_ext he h
theorem crel_ext {ro : Int → Option Nat} {ws ws' : va_W} (he : ext ws ws') {tys : List (ClassId × FieldType)} {s : Nat × Nat} {e : va_E} {f : Int → Int} (h : crel ro ws tys s e f) : crel ro ws' tys s e f := by
  obtain ⟨s1, s2⟩ := s
  match s1, h with
  | 0, ⟨fs, h1, h2, h3, h4⟩ => exact ⟨fs, h1, h2, h3, fun j v hj => by obtain ⟨pv, q1, q2⟩ := h4 j v hj; exact ⟨pv, q1, vrel_ext he q2⟩⟩
  | 1, h => exact h
  | 2, h => exact h
  | 3, h => exact h
  | 4, h => exact h
  | 5, ⟨cA, g, t0, h1, h2, h3⟩ => exact ⟨cA, g, t0, h1, h2, fun j hj => rrel_ext he (h3 j hj)⟩
  | 6, ⟨cA, g, t0, h1, h2, h3⟩ => exact ⟨cA, g, t0, h1, h2, fun j hj => rrel_ext he (h3 j hj)⟩
  | 7, ⟨cA, g, t0, h1, h2, h3⟩ => exact ⟨cA, g, t0, h1, h2, fun j hj => rrel_ext he (h3 j hj)⟩
theorem srel_ext {ro : Int → Option Nat} {ws ws' : va_W} (he : ext ws ws') : ∀ {vs : List Value} {qs : List PV}, srel ro ws vs qs → srel ro ws' vs qs
  | [], [], _ => trivial
  | _ :: _, _ :: _, h => ⟨vrel_ext he h.1, srel_ext he h.2⟩
theorem lrel_ext {ro : Int → Option Nat} {ws ws' : va_W} (he : ext ws ws') {nL : Nat} {ls : Array Slot} {pls : PL} (h : lrel ro ws nL ls pls) : lrel ro ws' nL ls pls := by
  obtain ⟨lv, h1, h2, h3⟩ := h
  exact ⟨lv, h1, h2, fun i pv hi => by obtain ⟨v, q1, q2⟩ := h3 i pv hi; exact ⟨v, q1, vrel_ext he q2⟩⟩
theorem srel_cons {ro : Int → Option Nat} {ws : va_W} : ∀ {vs : List Value} {q : PV} {qs : List PV}, srel ro ws vs (q :: qs) → ∃ v vs', vs = v :: vs' ∧ vrel ro ws v q ∧ srel ro ws vs' qs
  | v :: vs, _, _, h => ⟨v, vs, rfl, h.1, h.2⟩
theorem srel_nil {ro : Int → Option Nat} {ws : va_W} : ∀ {vs : List Value}, srel ro ws vs [] → vs = []
  | [], _ => rfl
theorem srel_len {ro : Int → Option Nat} {ws : va_W} : ∀ {vs : List Value} {qs : List PV}, srel ro ws vs qs → vs.length = qs.length
  | [], [], _ => rfl
  | _ :: _, _ :: _, h => by simp [srel_len h.2]
theorem cat_le (v : Value) : v.category ≤ 2 := by cases v <;> simp [Value.category]
theorem cat_sum : ∀ st : List Value, (st.map fun v => v.category).sum ≤ 2 * st.length
  | [] => Nat.le_refl 0
  | v :: st => by
    have h1 := cat_le v
    have h2 := cat_sum st
    simp only [List.map_cons, List.sum_cons, List.length_cons]
    omega
/-- a cell is written: the rest of the world stays -/
theorem wrel_set {ro : Int → Option Nat} {tys : List (ClassId × FieldType)} {ws : va_W} {sh : Shp} {w w' : Hp} {q a : Nat} {e0 e : va_E} {s : Nat × Nat} (h : wrel ro tys ws sh w) (hq : ws[q]? = some (a, e0)) (hs : sh[q]? = some s) (hc : crel ro ws tys s e (w' q)) (ho : ∀ k : Nat, k ≠ q → w' k = w k) : wrel ro tys (ws.set q (a, e)) sh w' := by
  refine ⟨by rw [List.length_set]; exact h.1, fun k s' x hk hx => ?_⟩
  have he : ext ws (ws.set q (a, e)) := ext_set hq
  by_cases hqk : q = k
  · subst hqk
    rw [List.getElem?_set_self (List.getElem?_eq_some_iff.mp hq).1] at hx
    cases hx
    rw [hs] at hk
    cases hk
    exact crel_ext he hc
  · rw [List.getElem?_set_ne hqk] at hx
    rw [ho k (fun z => hqk z.symm)]
    exact crel_ext he (h.2 k s' x hk hx)
/-- what is read only: the script, three static arrays -/
def K3 (j : Nat) : Int := [102, 118, 119, 103, 109, 104].getD j 0
def K4 (j : Nat) : Int := [0, 0, 0, 0, 2, 3].getD j 0
def K5 (j : Nat) : Int := [0, 3, 4, 1, 2].getD j 0
def RW (L : Nat) (xs : Nat → Int32) (w : Hp) : Prop := (w (-2) (-1) = L ∧ ∀ j : Nat, j < L → w (-2) j = (xs j).toInt) ∧ (w (-3) (-1) = 6 ∧ ∀ j : Nat, j < 6 → w (-3) j = K3 j) ∧ (w (-4) (-1) = 6 ∧ ∀ j : Nat, j < 6 → w (-4) j = K4 j) ∧ (w (-5) (-1) = 5 ∧ ∀ j : Nat, j < 5 → w (-5) j = K5 j)
theorem RW.of {L : Nat} {xs : Nat → Int32} {w w' : Hp} (h : RW L xs w) (ho : ∀ a : Int, a < 0 → w' a = w a) : RW L xs w' := by
  unfold RW at h ⊢
  rw [ho (-2) (by decide), ho (-3) (by decide), ho (-4) (by decide), ho (-5) (by decide)]
  exact h
def stO (base : Nat) (C n d : String) (ty : FieldType) (N : Nat) (K : Nat → Int) (r : Option Nat) (U : State) (H : Heap) : Prop := ∃ t, r = some t ∧ va_Z C n d (.ref t) (fun q => base ≤ q) U H ∧ va_T ty t N (fun j => .int (Int32.ofInt (K j))) (fun q => base ≤ q) U H
def Env0 (base L : Nat) (xs : Nat → Int32) (ro : Int → Option Nat) (U : State) (H : Heap) : Prop :=
  (∃ b, ro (-2) = some b ∧ b < base ∧ va_X b L xs U H) ∧ stO base "VotedHill$Reader" "KIND_LETTERS" "[C" .char 6 K3 (ro (-3)) U H ∧ stO base "VotedHill$Land" "WIDER_KIND" "[I" .int 6 K4 (ro (-4)) U H ∧ stO base "VotedHill$Land" "AGAINST" "[I" .int 5 K5 (ro (-5)) U H
  ∧ (∀ a i y h, Cond.methodLinkNest a i y h ∈ lw_tbl → va_Nw (.methodLinkNest a i y h) U) ∧ va_AO "VotedHill$Strip" U ∧ va_AO "VotedHill$Land" U ∧ va_AOA .int U
def Cx (p : Program) (s : State) (m : MethodId) (args : Array Value) (meth : Method) (c : Code) (base L : Nat) (xs : Nat → Int32) (ro : Int → Option Nat) (mi : Nat) : Prop :=
  p.tables.exec = Jvm.exec ∧ c.code = cOf mi ∧ c.maxLocals = mLoc mi ∧ s.vm.findClass (oOf mi) = some m.cls ∧ (∀ w ∈ WT, w.before args s = true) ∧ (mKind mi = 2 → meth.name = "<init>") ∧ base ≤ s.heap.size ∧ L < 2 ^ 31 ∧ Env0 base L xs ro s s.heap
/-- from every state of the machine that the pure state pictures, the machine comes to Q -/
def Sm (p : Program) (l : Launch) (e : Env) (R : Room) (s : State) (m : MethodId) (args : Array Value) (below : List Frame) (meth : Method) (c : Code) (Q : State → Prop) (D : va_G) (base L : Nat) (xs : Nat → Int32) (ro : Int → Option Nat) (mi : Nat) (ws0 : va_W) (cells slots : Nat) (pc : Nat) (pls : PL) (pst : List PV) (sh : Shp) (w : Hp) : Prop :=
  ∀ (H : Heap) (locs : List Loc) (ls : Array Slot) (st : List Value) (ws : va_W) (tys : List (ClassId × FieldType)), ext ws0 ws → va_K D vwCl tys s → va_P D vwCl ws H → va_D (fun q => base ≤ q) ws → va_S (fun q => base ≤ q) s.heap H locs → RW L xs w → wrel ro tys ws sh w → lrel ro ws (mLoc mi) ls pls → srel ro ws st pst → W p l e R s m args below meth c H locs cells slots Q (F0 m pc ls st)
theorem tnc (x : Int32) : x.toNatClampNeg = x.toInt.toNat := rfl
theorem i32_of (z : Int32) : Int32.ofInt z.toInt = z := Int32.ofInt_toInt z
theorem lt32 {a b : Int32} : a < b ↔ a.toInt < b.toInt := Int32.lt_iff_toInt_lt
theorem le32 {a b : Int32} : a ≤ b ↔ a.toInt ≤ b.toInt := Int32.le_iff_toInt_le
theorem eq32 {a b : Int32} : a = b ↔ a.toInt = b.toInt := Int32.toInt_inj.symm

section SIM
variable {p : Program} {l : Launch} {e : Env} {R : Room} {s : State} {m : MethodId} {args : Array Value} {below : List Frame} {meth : Method} {c : Code} {Q : State → Prop} {D : va_G} {base L : Nat} {xs : Nat → Int32} {ro : Int → Option Nat} {mi : Nat} {ws0 : va_W} {cells slots : Nat} {pc : Nat} {pls : PL} {pst : List PV} {sh : Shp} {w : Hp}
theorem sm_iadd (C : Cx p s m args meth c base L xs ro mi) {a b : Int} (hd : decode (cOf mi) pc = .ok (.iadd, 1)) (k : Sm p l e R s m args below meth c Q D base L xs ro mi ws0 cells slots (pc + 1) pls (vI (w32 (a + b)) :: pst) sh w) : Sm p l e R s m args below meth c Q D base L xs ro mi ws0 cells slots pc pls (vI b :: vI a :: pst) sh w := by
  intro H locs ls st ws tys he hK hP hD hS hRW hw hl hs
  obtain ⟨hx, hb, hml, hown, hts, hini, hbs, hL, hE⟩ := C
  have hs' := srel_cons hs
  clear hs
  obtain ⟨v1, st, rfl, ⟨c1, rfl, h1⟩, hs⟩ := hs'
  have hs' := srel_cons hs
  clear hs
  obtain ⟨v2, st, rfl, ⟨c2, rfl, h2⟩, hs⟩ := hs'
  subst h1 h2
  refine lv_iadd hx hb hd ?_
  exact k H locs ls _ ws tys he hK hP hD hS hRW hw hl ⟨⟨_, rfl, Int32.toInt_add _ _⟩, hs⟩
theorem sm_isub (C : Cx p s m args meth c base L xs ro mi) {a b : Int} (hd : decode (cOf mi) pc = .ok (.isub, 1)) (k : Sm p l e R s m args below meth c Q D base L xs ro mi ws0 cells slots (pc + 1) pls (vI (w32 (a - b)) :: pst) sh w) : Sm p l e R s m args below meth c Q D base L xs ro mi ws0 cells slots pc pls (vI b :: vI a :: pst) sh w := by
  intro H locs ls st ws tys he hK hP hD hS hRW hw hl hs
  obtain ⟨hx, hb, hml, hown, hts, hini, hbs, hL, hE⟩ := C
  have hs' := srel_cons hs
  clear hs
  obtain ⟨v1, st, rfl, ⟨c1, rfl, h1⟩, hs⟩ := hs'
  have hs' := srel_cons hs
  clear hs
  obtain ⟨v2, st, rfl, ⟨c2, rfl, h2⟩, hs⟩ := hs'
  subst h1 h2
  refine lv_isub hx hb hd ?_
  exact k H locs ls _ ws tys he hK hP hD hS hRW hw hl ⟨⟨_, rfl, Int32.toInt_sub _ _⟩, hs⟩
theorem sm_imul (C : Cx p s m args meth c base L xs ro mi) {a b : Int} (hd : decode (cOf mi) pc = .ok (.imul, 1)) (k : Sm p l e R s m args below meth c Q D base L xs ro mi ws0 cells slots (pc + 1) pls (vI (w32 (a * b)) :: pst) sh w) : Sm p l e R s m args below meth c Q D base L xs ro mi ws0 cells slots pc pls (vI b :: vI a :: pst) sh w := by
  intro H locs ls st ws tys he hK hP hD hS hRW hw hl hs
  obtain ⟨hx, hb, hml, hown, hts, hini, hbs, hL, hE⟩ := C
  have hs' := srel_cons hs
  clear hs
  obtain ⟨v1, st, rfl, ⟨c1, rfl, h1⟩, hs⟩ := hs'
  have hs' := srel_cons hs
  clear hs
  obtain ⟨v2, st, rfl, ⟨c2, rfl, h2⟩, hs⟩ := hs'
  subst h1 h2
  refine lv_imul hx hb hd ?_
  exact k H locs ls _ ws tys he hK hP hD hS hRW hw hl ⟨⟨_, rfl, Int32.toInt_mul _ _⟩, hs⟩
theorem sm_iand (C : Cx p s m args meth c base L xs ro mi) {a b : Int} (hd : decode (cOf mi) pc = .ok (.iand, 1)) (k : Sm p l e R s m args below meth c Q D base L xs ro mi ws0 cells slots (pc + 1) pls (vI (iAnd a b) :: pst) sh w) : Sm p l e R s m args below meth c Q D base L xs ro mi ws0 cells slots pc pls (vI b :: vI a :: pst) sh w := by
  intro H locs ls st ws tys he hK hP hD hS hRW hw hl hs
  obtain ⟨hx, hb, hml, hown, hts, hini, hbs, hL, hE⟩ := C
  have hs' := srel_cons hs
  clear hs
  obtain ⟨v1, st, rfl, ⟨c1, rfl, h1⟩, hs⟩ := hs'
  have hs' := srel_cons hs
  clear hs
  obtain ⟨v2, st, rfl, ⟨c2, rfl, h2⟩, hs⟩ := hs'
  subst h1 h2
  refine lv_iand hx hb hd ?_
  exact k H locs ls _ ws tys he hK hP hD hS hRW hw hl ⟨⟨_, rfl, by rw [iAnd, i32_of, i32_of]⟩, hs⟩
theorem sm_ior (C : Cx p s m args meth c base L xs ro mi) {a b : Int} (hd : decode (cOf mi) pc = .ok (.ior, 1)) (k : Sm p l e R s m args below meth c Q D base L xs ro mi ws0 cells slots (pc + 1) pls (vI (iOr a b) :: pst) sh w) : Sm p l e R s m args below meth c Q D base L xs ro mi ws0 cells slots pc pls (vI b :: vI a :: pst) sh w := by
  intro H locs ls st ws tys he hK hP hD hS hRW hw hl hs
  obtain ⟨hx, hb, hml, hown, hts, hini, hbs, hL, hE⟩ := C
  have hs' := srel_cons hs
  clear hs
  obtain ⟨v1, st, rfl, ⟨c1, rfl, h1⟩, hs⟩ := hs'
  have hs' := srel_cons hs
  clear hs
  obtain ⟨v2, st, rfl, ⟨c2, rfl, h2⟩, hs⟩ := hs'
  subst h1 h2
  refine lv_ior hx hb hd ?_
  exact k H locs ls _ ws tys he hK hP hD hS hRW hw hl ⟨⟨_, rfl, by rw [iOr, i32_of, i32_of]⟩, hs⟩
theorem sm_ixor (C : Cx p s m args meth c base L xs ro mi) {a b : Int} (hd : decode (cOf mi) pc = .ok (.ixor, 1)) (k : Sm p l e R s m args below meth c Q D base L xs ro mi ws0 cells slots (pc + 1) pls (vI (iXor a b) :: pst) sh w) : Sm p l e R s m args below meth c Q D base L xs ro mi ws0 cells slots pc pls (vI b :: vI a :: pst) sh w := by
  intro H locs ls st ws tys he hK hP hD hS hRW hw hl hs
  obtain ⟨hx, hb, hml, hown, hts, hini, hbs, hL, hE⟩ := C
  have hs' := srel_cons hs
  clear hs
  obtain ⟨v1, st, rfl, ⟨c1, rfl, h1⟩, hs⟩ := hs'
  have hs' := srel_cons hs
  clear hs
  obtain ⟨v2, st, rfl, ⟨c2, rfl, h2⟩, hs⟩ := hs'
  subst h1 h2
  refine lv_ixor hx hb hd ?_
  exact k H locs ls _ ws tys he hK hP hD hS hRW hw hl ⟨⟨_, rfl, by rw [iXor, i32_of, i32_of]⟩, hs⟩
theorem sm_ishl (C : Cx p s m args meth c base L xs ro mi) {a b : Int} (hd : decode (cOf mi) pc = .ok (.ishl, 1)) (k : Sm p l e R s m args below meth c Q D base L xs ro mi ws0 cells slots (pc + 1) pls (vI (iShl a b) :: pst) sh w) : Sm p l e R s m args below meth c Q D base L xs ro mi ws0 cells slots pc pls (vI b :: vI a :: pst) sh w := by
  intro H locs ls st ws tys he hK hP hD hS hRW hw hl hs
  obtain ⟨hx, hb, hml, hown, hts, hini, hbs, hL, hE⟩ := C
  have hs' := srel_cons hs
  clear hs
  obtain ⟨v1, st, rfl, ⟨c1, rfl, h1⟩, hs⟩ := hs'
  have hs' := srel_cons hs
  clear hs
  obtain ⟨v2, st, rfl, ⟨c2, rfl, h2⟩, hs⟩ := hs'
  subst h1 h2
  refine lv_ishl hx hb hd ?_
  exact k H locs ls _ ws tys he hK hP hD hS hRW hw hl ⟨⟨_, rfl, by rw [iShl, i32_of, i32_of]⟩, hs⟩
theorem sm_ishr (C : Cx p s m args meth c base L xs ro mi) {a b : Int} (hd : decode (cOf mi) pc = .ok (.ishr, 1)) (k : Sm p l e R s m args below meth c Q D base L xs ro mi ws0 cells slots (pc + 1) pls (vI (iShr a b) :: pst) sh w) : Sm p l e R s m args below meth c Q D base L xs ro mi ws0 cells slots pc pls (vI b :: vI a :: pst) sh w := by
  intro H locs ls st ws tys he hK hP hD hS hRW hw hl hs
  obtain ⟨hx, hb, hml, hown, hts, hini, hbs, hL, hE⟩ := C
  have hs' := srel_cons hs
  clear hs
  obtain ⟨v1, st, rfl, ⟨c1, rfl, h1⟩, hs⟩ := hs'
  have hs' := srel_cons hs
  clear hs
  obtain ⟨v2, st, rfl, ⟨c2, rfl, h2⟩, hs⟩ := hs'
  subst h1 h2
  refine lv_ishr hx hb hd ?_
  exact k H locs ls _ ws tys he hK hP hD hS hRW hw hl ⟨⟨_, rfl, by rw [iShr, i32_of, i32_of]⟩, hs⟩
theorem sm_iushr (C : Cx p s m args meth c base L xs ro mi) {a b : Int} (hd : decode (cOf mi) pc = .ok (.iushr, 1)) (k : Sm p l e R s m args below meth c Q D base L xs ro mi ws0 cells slots (pc + 1) pls (vI (iUshr a b) :: pst) sh w) : Sm p l e R s m args below meth c Q D base L xs ro mi ws0 cells slots pc pls (vI b :: vI a :: pst) sh w := by
  intro H locs ls st ws tys he hK hP hD hS hRW hw hl hs
  obtain ⟨hx, hb, hml, hown, hts, hini, hbs, hL, hE⟩ := C
  have hs' := srel_cons hs
  clear hs
  obtain ⟨v1, st, rfl, ⟨c1, rfl, h1⟩, hs⟩ := hs'
  have hs' := srel_cons hs
  clear hs
  obtain ⟨v2, st, rfl, ⟨c2, rfl, h2⟩, hs⟩ := hs'
  subst h1 h2
  refine lv_iushr hx hb hd rfl ?_
  exact k H locs ls _ ws tys he hK hP hD hS hRW hw hl ⟨⟨_, rfl, by rw [iUshr, i32_of, i32_of]⟩, hs⟩
theorem sm_idiv (C : Cx p s m args meth c base L xs ro mi) {a b : Int} (hn : ¬ b = 0) (hd : decode (cOf mi) pc = .ok (.idiv, 1)) (k : Sm p l e R s m args below meth c Q D base L xs ro mi ws0 cells slots (pc + 1) pls (vI (iDiv a b) :: pst) sh w) : Sm p l e R s m args below meth c Q D base L xs ro mi ws0 cells slots pc pls (vI b :: vI a :: pst) sh w := by
  intro H locs ls st ws tys he hK hP hD hS hRW hw hl hs
  obtain ⟨hx, hb, hml, hown, hts, hini, hbs, hL, hE⟩ := C
  have hs' := srel_cons hs
  clear hs
  obtain ⟨v1, st, rfl, ⟨c1, rfl, h1⟩, hs⟩ := hs'
  have hs' := srel_cons hs
  clear hs
  obtain ⟨v2, st, rfl, ⟨c2, rfl, h2⟩, hs⟩ := hs'
  subst h1 h2
  refine lv_idiv hx hb hd (fun z => hn (by rw [z]; rfl)) ?_
  exact k H locs ls _ ws tys he hK hP hD hS hRW hw hl ⟨⟨_, rfl, Int32.toInt_div _ _⟩, hs⟩
theorem sm_irem (C : Cx p s m args meth c base L xs ro mi) {a b : Int} (hn : ¬ b = 0) (hd : decode (cOf mi) pc = .ok (.irem, 1)) (k : Sm p l e R s m args below meth c Q D base L xs ro mi ws0 cells slots (pc + 1) pls (vI (iRem a b) :: pst) sh w) : Sm p l e R s m args below meth c Q D base L xs ro mi ws0 cells slots pc pls (vI b :: vI a :: pst) sh w := by
  intro H locs ls st ws tys he hK hP hD hS hRW hw hl hs
  obtain ⟨hx, hb, hml, hown, hts, hini, hbs, hL, hE⟩ := C
  have hs' := srel_cons hs
  clear hs
  obtain ⟨v1, st, rfl, ⟨c1, rfl, h1⟩, hs⟩ := hs'
  have hs' := srel_cons hs
  clear hs
  obtain ⟨v2, st, rfl, ⟨c2, rfl, h2⟩, hs⟩ := hs'
  subst h1 h2
  refine lv_irem hx hb hd (fun z => hn (by rw [z]; rfl)) ?_
  exact k H locs ls _ ws tys he hK hP hD hS hRW hw hl ⟨⟨_, rfl, by rw [Int32.toInt_sub, Int32.toInt_mul, Int32.toInt_div]; rfl⟩, hs⟩
theorem sm_ladd (C : Cx p s m args meth c base L xs ro mi) {a b : Int} (hd : decode (cOf mi) pc = .ok (.ladd, 1)) (k : Sm p l e R s m args below meth c Q D base L xs ro mi ws0 cells slots (pc + 1) pls (vL (w64 (a + b)) :: pst) sh w) : Sm p l e R s m args below meth c Q D base L xs ro mi ws0 cells slots pc pls (vL b :: vL a :: pst) sh w := by
  intro H locs ls st ws tys he hK hP hD hS hRW hw hl hs
  obtain ⟨hx, hb, hml, hown, hts, hini, hbs, hL, hE⟩ := C
  have hs' := srel_cons hs
  clear hs
  obtain ⟨v1, st, rfl, ⟨c1, rfl, h1⟩, hs⟩ := hs'
  have hs' := srel_cons hs
  clear hs
  obtain ⟨v2, st, rfl, ⟨c2, rfl, h2⟩, hs⟩ := hs'
  subst h1 h2
  refine lv_ladd hx hb hd ?_
  exact k H locs ls _ ws tys he hK hP hD hS hRW hw hl ⟨⟨_, rfl, Int64.toInt_add _ _⟩, hs⟩
theorem sm_lmul (C : Cx p s m args meth c base L xs ro mi) {a b : Int} (hd : decode (cOf mi) pc = .ok (.lmul, 1)) (k : Sm p l e R s m args below meth c Q D base L xs ro mi ws0 cells slots (pc + 1) pls (vL (w64 (a * b)) :: pst) sh w) : Sm p l e R s m args below meth c Q D base L xs ro mi ws0 cells slots pc pls (vL b :: vL a :: pst) sh w := by
  intro H locs ls st ws tys he hK hP hD hS hRW hw hl hs
  obtain ⟨hx, hb, hml, hown, hts, hini, hbs, hL, hE⟩ := C
  have hs' := srel_cons hs
  clear hs
  obtain ⟨v1, st, rfl, ⟨c1, rfl, h1⟩, hs⟩ := hs'
  have hs' := srel_cons hs
  clear hs
  obtain ⟨v2, st, rfl, ⟨c2, rfl, h2⟩, hs⟩ := hs'
  subst h1 h2
  refine lv_lmul hx hb hd ?_
  exact k H locs ls _ ws tys he hK hP hD hS hRW hw hl ⟨⟨_, rfl, Int64.toInt_mul _ _⟩, hs⟩
theorem sm_ldiv (C : Cx p s m args meth c base L xs ro mi) {a b : Int} (hn : ¬ b = 0) (hd : decode (cOf mi) pc = .ok (.ldiv, 1)) (k : Sm p l e R s m args below meth c Q D base L xs ro mi ws0 cells slots (pc + 1) pls (vL (lDiv a b) :: pst) sh w) : Sm p l e R s m args below meth c Q D base L xs ro mi ws0 cells slots pc pls (vL b :: vL a :: pst) sh w := by
  intro H locs ls st ws tys he hK hP hD hS hRW hw hl hs
  obtain ⟨hx, hb, hml, hown, hts, hini, hbs, hL, hE⟩ := C
  have hs' := srel_cons hs
  clear hs
  obtain ⟨v1, st, rfl, ⟨c1, rfl, h1⟩, hs⟩ := hs'
  have hs' := srel_cons hs
  clear hs
  obtain ⟨v2, st, rfl, ⟨c2, rfl, h2⟩, hs⟩ := hs'
  subst h1 h2
  refine lv_ldiv hx hb hd (fun z => hn (by rw [z]; rfl)) ?_
  exact k H locs ls _ ws tys he hK hP hD hS hRW hw hl ⟨⟨_, rfl, Int64.toInt_div _ _⟩, hs⟩
theorem sm_lrem (C : Cx p s m args meth c base L xs ro mi) {a b : Int} (hn : ¬ b = 0) (hd : decode (cOf mi) pc = .ok (.lrem, 1)) (k : Sm p l e R s m args below meth c Q D base L xs ro mi ws0 cells slots (pc + 1) pls (vL (lRem a b) :: pst) sh w) : Sm p l e R s m args below meth c Q D base L xs ro mi ws0 cells slots pc pls (vL b :: vL a :: pst) sh w := by
  intro H locs ls st ws tys he hK hP hD hS hRW hw hl hs
  obtain ⟨hx, hb, hml, hown, hts, hini, hbs, hL, hE⟩ := C
  have hs' := srel_cons hs
  clear hs
  obtain ⟨v1, st, rfl, ⟨c1, rfl, h1⟩, hs⟩ := hs'
  have hs' := srel_cons hs
  clear hs
  obtain ⟨v2, st, rfl, ⟨c2, rfl, h2⟩, hs⟩ := hs'
  subst h1 h2
  refine lv_lrem hx hb hd (fun z => hn (by rw [z]; rfl)) ?_
  exact k H locs ls _ ws tys he hK hP hD hS hRW hw hl ⟨⟨_, rfl, by rw [Int64.toInt_sub, Int64.toInt_mul, Int64.toInt_div]; rfl⟩, hs⟩
theorem sm_ineg (C : Cx p s m args meth c base L xs ro mi) {a : Int} (hd : decode (cOf mi) pc = .ok (.ineg, 1)) (k : Sm p l e R s m args below meth c Q D base L xs ro mi ws0 cells slots (pc + 1) pls (vI (w32 (-a)) :: pst) sh w) : Sm p l e R s m args below meth c Q D base L xs ro mi ws0 cells slots pc pls (vI a :: pst) sh w := by
  intro H locs ls st ws tys he hK hP hD hS hRW hw hl hs
  obtain ⟨hx, hb, hml, hown, hts, hini, hbs, hL, hE⟩ := C
  have hs' := srel_cons hs
  clear hs
  obtain ⟨v1, st, rfl, ⟨c1, rfl, h1⟩, hs⟩ := hs'
  subst h1
  refine lv_ineg hx hb hd ?_
  exact k H locs ls _ ws tys he hK hP hD hS hRW hw hl ⟨⟨_, rfl, Int32.toInt_neg _⟩, hs⟩
theorem sm_i2l (C : Cx p s m args meth c base L xs ro mi) {a : Int} (hd : decode (cOf mi) pc = .ok (.i2l, 1)) (k : Sm p l e R s m args below meth c Q D base L xs ro mi ws0 cells slots (pc + 1) pls (vL a :: pst) sh w) : Sm p l e R s m args below meth c Q D base L xs ro mi ws0 cells slots pc pls (vI a :: pst) sh w := by
  intro H locs ls st ws tys he hK hP hD hS hRW hw hl hs
  obtain ⟨hx, hb, hml, hown, hts, hini, hbs, hL, hE⟩ := C
  have hs' := srel_cons hs
  clear hs
  obtain ⟨v1, st, rfl, ⟨c1, rfl, h1⟩, hs⟩ := hs'
  subst h1
  refine lv_i2l hx hb hd rfl ?_
  exact k H locs ls _ ws tys he hK hP hD hS hRW hw hl ⟨⟨_, rfl, Int32.toInt_toInt64 _⟩, hs⟩
theorem sm_l2i (C : Cx p s m args meth c base L xs ro mi) {a : Int} (hd : decode (cOf mi) pc = .ok (.l2i, 1)) (k : Sm p l e R s m args below meth c Q D base L xs ro mi ws0 cells slots (pc + 1) pls (vI (w32 a) :: pst) sh w) : Sm p l e R s m args below meth c Q D base L xs ro mi ws0 cells slots pc pls (vL a :: pst) sh w := by
  intro H locs ls st ws tys he hK hP hD hS hRW hw hl hs
  obtain ⟨hx, hb, hml, hown, hts, hini, hbs, hL, hE⟩ := C
  have hs' := srel_cons hs
  clear hs
  obtain ⟨v1, st, rfl, ⟨c1, rfl, h1⟩, hs⟩ := hs'
  subst h1
  refine lv_l2i hx hb hd rfl ?_
  exact k H locs ls _ ws tys he hK hP hD hS hRW hw hl ⟨⟨_, rfl, Int64.toInt_toInt32 _⟩, hs⟩
theorem sm_i2b (C : Cx p s m args meth c base L xs ro mi) {a : Int} (hd : decode (cOf mi) pc = .ok (.i2b, 1)) (k : Sm p l e R s m args below meth c Q D base L xs ro mi ws0 cells slots (pc + 1) pls (vI (iB a) :: pst) sh w) : Sm p l e R s m args below meth c Q D base L xs ro mi ws0 cells slots pc pls (vI a :: pst) sh w := by
  intro H locs ls st ws tys he hK hP hD hS hRW hw hl hs
  obtain ⟨hx, hb, hml, hown, hts, hini, hbs, hL, hE⟩ := C
  have hs' := srel_cons hs
  clear hs
  obtain ⟨v1, st, rfl, ⟨c1, rfl, h1⟩, hs⟩ := hs'
  subst h1
  refine lv_i2b hx hb hd rfl ?_
  exact k H locs ls _ ws tys he hK hP hD hS hRW hw hl ⟨⟨_, rfl, by rw [Int8.toInt_toInt32, Int32.toInt_toInt8]; rfl⟩, hs⟩
theorem sm_pop (C : Cx p s m args meth c base L xs ro mi) {a : Int} (hd : decode (cOf mi) pc = .ok (.pop, 1)) (k : Sm p l e R s m args below meth c Q D base L xs ro mi ws0 cells slots (pc + 1) pls pst sh w) : Sm p l e R s m args below meth c Q D base L xs ro mi ws0 cells slots pc pls (vI a :: pst) sh w := by
  intro H locs ls st ws tys he hK hP hD hS hRW hw hl hs
  obtain ⟨hx, hb, hml, hown, hts, hini, hbs, hL, hE⟩ := C
  have hs' := srel_cons hs
  clear hs
  obtain ⟨v1, st, rfl, ⟨c1, rfl, h1⟩, hs⟩ := hs'
  subst h1
  refine lv_pop hx hb hd rfl ?_
  exact k H locs ls _ ws tys he hK hP hD hS hRW hw hl hs
theorem sm_iconst (C : Cx p s m args meth c base L xs ro mi) {n : Int} (hd : decode (cOf mi) pc = .ok (.iconst n, 1)) (k : Sm p l e R s m args below meth c Q D base L xs ro mi ws0 cells slots (pc + 1) pls (vI (w32 n) :: pst) sh w) : Sm p l e R s m args below meth c Q D base L xs ro mi ws0 cells slots pc pls (pst) sh w := by
  intro H locs ls st ws tys he hK hP hD hS hRW hw hl hs
  obtain ⟨hx, hb, hml, hown, hts, hini, hbs, hL, hE⟩ := C
  refine lv_iconst hx hb hd rfl ?_
  exact k H locs ls _ ws tys he hK hP hD hS hRW hw hl ⟨⟨_, rfl, Int32.toInt_ofInt⟩, hs⟩
theorem sm_bipush (C : Cx p s m args meth c base L xs ro mi) {n : Int} (hd : decode (cOf mi) pc = .ok (.bipush n, 2)) (k : Sm p l e R s m args below meth c Q D base L xs ro mi ws0 cells slots (pc + 2) pls (vI (iB n) :: pst) sh w) : Sm p l e R s m args below meth c Q D base L xs ro mi ws0 cells slots pc pls (pst) sh w := by
  intro H locs ls st ws tys he hK hP hD hS hRW hw hl hs
  obtain ⟨hx, hb, hml, hown, hts, hini, hbs, hL, hE⟩ := C
  refine lv_bipush hx hb hd rfl ?_
  exact k H locs ls _ ws tys he hK hP hD hS hRW hw hl ⟨⟨_, rfl, by rw [Int8.toInt_toInt32, Int8.toInt_ofInt]; rfl⟩, hs⟩
theorem sm_sipush (C : Cx p s m args meth c base L xs ro mi) {n : Int} (hd : decode (cOf mi) pc = .ok (.sipush n, 3)) (k : Sm p l e R s m args below meth c Q D base L xs ro mi ws0 cells slots (pc + 3) pls (vI (Int.bmod n 65536) :: pst) sh w) : Sm p l e R s m args below meth c Q D base L xs ro mi ws0 cells slots pc pls (pst) sh w := by
  intro H locs ls st ws tys he hK hP hD hS hRW hw hl hs
  obtain ⟨hx, hb, hml, hown, hts, hini, hbs, hL, hE⟩ := C
  refine lv_sipush hx hb hd rfl ?_
  exact k H locs ls _ ws tys he hK hP hD hS hRW hw hl ⟨⟨_, rfl, by rw [Int16.toInt_toInt32, Int16.toInt_ofInt]⟩, hs⟩
theorem sm_ldc (C : Cx p s m args meth c base L xs ro mi) {x : Int} {i : Nat} (hm : Cond.constant (oOf mi) i (Int32.ofInt x) ∈ WT) (hd : decode (cOf mi) pc = .ok (.ldc i, 2)) (k : Sm p l e R s m args below meth c Q D base L xs ro mi ws0 cells slots (pc + 2) pls (vI (w32 x) :: pst) sh w) : Sm p l e R s m args below meth c Q D base L xs ro mi ws0 cells slots pc pls (pst) sh w := by
  intro H locs ls st ws tys he hK hP hD hS hRW hw hl hs
  obtain ⟨hx, hb, hml, hown, hts, hini, hbs, hL, hE⟩ := C
  refine lv_ldc hx hb hown (hts _ hm) hd ?_
  exact k H locs ls _ ws tys he hK hP hD hS hRW hw hl ⟨⟨_, rfl, Int32.toInt_ofInt⟩, hs⟩
theorem sm_ldc_w (C : Cx p s m args meth c base L xs ro mi) {x : Int} {i : Nat} (hm : Cond.constant (oOf mi) i (Int32.ofInt x) ∈ WT) (hd : decode (cOf mi) pc = .ok (.ldc_w i, 3)) (k : Sm p l e R s m args below meth c Q D base L xs ro mi ws0 cells slots (pc + 3) pls (vI (w32 x) :: pst) sh w) : Sm p l e R s m args below meth c Q D base L xs ro mi ws0 cells slots pc pls (pst) sh w := by
  intro H locs ls st ws tys he hK hP hD hS hRW hw hl hs
  obtain ⟨hx, hb, hml, hown, hts, hini, hbs, hL, hE⟩ := C
  refine lv_ldcw hx hb hown (hts _ hm) hd ?_
  exact k H locs ls _ ws tys he hK hP hD hS hRW hw hl ⟨⟨_, rfl, Int32.toInt_ofInt⟩, hs⟩
theorem sm_ldc2_w (C : Cx p s m args meth c base L xs ro mi) {x : Int} {i : Nat} (hm : Cond.constantLong (oOf mi) i (Int64.ofInt x) ∈ WT) (hd : decode (cOf mi) pc = .ok (.ldc2_w i, 3)) (k : Sm p l e R s m args below meth c Q D base L xs ro mi ws0 cells slots (pc + 3) pls (vL (w64 x) :: pst) sh w) : Sm p l e R s m args below meth c Q D base L xs ro mi ws0 cells slots pc pls (pst) sh w := by
  intro H locs ls st ws tys he hK hP hD hS hRW hw hl hs
  obtain ⟨hx, hb, hml, hown, hts, hini, hbs, hL, hE⟩ := C
  refine lv_ldc2 hx hb hown (hts _ hm) hd ?_
  exact k H locs ls _ ws tys he hK hP hD hS hRW hw hl ⟨⟨_, rfl, Int64.toInt_ofInt⟩, hs⟩
theorem sm_lconst (C : Cx p s m args meth c base L xs ro mi) {n : Fin 2} (hd : decode (cOf mi) pc = .ok (.lconst n, 1)) (k : Sm p l e R s m args below meth c Q D base L xs ro mi ws0 cells slots (pc + 1) pls (vL n.val :: pst) sh w) : Sm p l e R s m args below meth c Q D base L xs ro mi ws0 cells slots pc pls (pst) sh w := by
  intro H locs ls st ws tys he hK hP hD hS hRW hw hl hs
  obtain ⟨hx, hb, hml, hown, hts, hini, hbs, hL, hE⟩ := C
  refine lv_lconst hx hb hd rfl ?_
  exact k H locs ls _ ws tys he hK hP hD hS hRW hw hl ⟨⟨_, rfl, by rcases n with ⟨_ | _ | n, h⟩ <;> first | rfl | omega⟩, hs⟩
theorem sm_null (C : Cx p s m args meth c base L xs ro mi) (hd : decode (cOf mi) pc = .ok (.aconst_null, 1)) (k : Sm p l e R s m args below meth c Q D base L xs ro mi ws0 cells slots (pc + 1) pls (vR (-1) :: pst) sh w) : Sm p l e R s m args below meth c Q D base L xs ro mi ws0 cells slots pc pls (pst) sh w := by
  intro H locs ls st ws tys he hK hP hD hS hRW hw hl hs
  obtain ⟨hx, hb, hml, hown, hts, hini, hbs, hL, hE⟩ := C
  refine lv_null hx hb hd ?_
  exact k H locs ls _ ws tys he hK hP hD hS hRW hw hl ⟨Or.inl ⟨rfl, rfl⟩, hs⟩
theorem sm_dupI (C : Cx p s m args meth c base L xs ro mi) {a : Int} (hd : decode (cOf mi) pc = .ok (.dup, 1)) (k : Sm p l e R s m args below meth c Q D base L xs ro mi ws0 cells slots (pc + 1) pls (vI a :: vI a :: pst) sh w) : Sm p l e R s m args below meth c Q D base L xs ro mi ws0 cells slots pc pls (vI a :: pst) sh w := by
  intro H locs ls st ws tys he hK hP hD hS hRW hw hl hs
  obtain ⟨hx, hb, hml, hown, hts, hini, hbs, hL, hE⟩ := C
  have hs' := srel_cons hs
  clear hs
  obtain ⟨v1, st, rfl, ⟨c1, rfl, h1⟩, hs⟩ := hs'
  refine lv_dup hx hb hd rfl ?_
  exact k H locs ls _ ws tys he hK hP hD hS hRW hw hl ⟨⟨c1, rfl, h1⟩, ⟨c1, rfl, h1⟩, hs⟩
theorem sm_dupR (C : Cx p s m args meth c base L xs ro mi) {a : Int} (hd : decode (cOf mi) pc = .ok (.dup, 1)) (k : Sm p l e R s m args below meth c Q D base L xs ro mi ws0 cells slots (pc + 1) pls (vR a :: vR a :: pst) sh w) : Sm p l e R s m args below meth c Q D base L xs ro mi ws0 cells slots pc pls (vR a :: pst) sh w := by
  intro H locs ls st ws tys he hK hP hD hS hRW hw hl hs
  obtain ⟨hx, hb, hml, hown, hts, hini, hbs, hL, hE⟩ := C
  have hs' := srel_cons hs
  clear hs
  obtain ⟨v1, st, rfl, h1, hs⟩ := hs'
  refine lv_dup hx hb hd (by rcases h1 with ⟨-, h⟩ | ⟨-, a, h, -⟩ <;> rw [h] <;> rfl) ?_
  exact k H locs ls _ ws tys he hK hP hD hS hRW hw hl ⟨h1, h1, hs⟩
theorem sm_dup2 (C : Cx p s m args meth c base L xs ro mi) {a b : Int} (hd : decode (cOf mi) pc = .ok (.dup2, 1)) (k : Sm p l e R s m args below meth c Q D base L xs ro mi ws0 cells slots (pc + 1) pls (vI a :: vR b :: vI a :: vR b :: pst) sh w) : Sm p l e R s m args below meth c Q D base L xs ro mi ws0 cells slots pc pls (vI a :: vR b :: pst) sh w := by
  intro H locs ls st ws tys he hK hP hD hS hRW hw hl hs
  obtain ⟨hx, hb, hml, hown, hts, hini, hbs, hL, hE⟩ := C
  have hs' := srel_cons hs
  clear hs
  obtain ⟨v1, st, rfl, ⟨c1, rfl, h1⟩, hs⟩ := hs'
  have hs' := srel_cons hs
  clear hs
  obtain ⟨v2, st, rfl, h2, hs⟩ := hs'
  refine lv_dup2_11 hx hb hd rfl (by rcases h2 with ⟨-, h⟩ | ⟨-, a, h, -⟩ <;> rw [h] <;> rfl) ?_
  exact k H locs ls _ ws tys he hK hP hD hS hRW hw hl ⟨⟨c1, rfl, h1⟩, h2, ⟨c1, rfl, h1⟩, h2, hs⟩
theorem sm_lcmp (C : Cx p s m args meth c base L xs ro mi) {a b : Int} (hd : decode (cOf mi) pc = .ok (.lcmp, 1)) (k : Sm p l e R s m args below meth c Q D base L xs ro mi ws0 cells slots (pc + 1) pls (vI (lCmp a b) :: pst) sh w) : Sm p l e R s m args below meth c Q D base L xs ro mi ws0 cells slots pc pls (vL b :: vL a :: pst) sh w := by
  intro H locs ls st ws tys he hK hP hD hS hRW hw hl hs
  obtain ⟨hx, hb, hml, hown, hts, hini, hbs, hL, hE⟩ := C
  have hs' := srel_cons hs
  clear hs
  obtain ⟨v1, st, rfl, ⟨c1, rfl, h1⟩, hs⟩ := hs'
  have hs' := srel_cons hs
  clear hs
  obtain ⟨v2, st, rfl, ⟨c2, rfl, h2⟩, hs⟩ := hs'
  subst h1 h2
  refine W.lcmp hx hb hd ?_
  refine k H locs ls _ ws tys he hK hP hD hS hRW hw hl ⟨⟨_, rfl, ?_⟩, hs⟩
  unfold lCmp lg_cmp
  simp only [gt_iff_lt, Int64.lt_iff_toInt_lt, ← Int64.toInt_inj]
  by_cases h1 : c1.toInt < c2.toInt
  · rw [if_pos h1, if_neg (by omega), if_neg (by omega)]
    rfl
  · rw [if_neg h1]
    by_cases h2 : c2.toInt < c1.toInt
    · rw [if_neg (by omega), if_pos h2]
      rfl
    · rw [if_pos (by omega), if_neg h2, if_pos (by omega)]
      rfl
theorem sm_if_eq (C : Cx p s m args meth c base L xs ro mi) {a x : Int} {off : Int} (hd : decode (cOf mi) pc = .ok (.ifCond .eq off, 3)) (ht : (pc : Int) + off = x ∧ 0 ≤ x) (k : Sm p l e R s m args below meth c Q D base L xs ro mi ws0 cells slots (tgt (a = 0) x (pc + 3)) pls pst sh w) : Sm p l e R s m args below meth c Q D base L xs ro mi ws0 cells slots pc pls (vI a :: pst) sh w := by
  intro H locs ls st ws tys he hK hP hD hS hRW hw hl hs
  obtain ⟨hx, hb, hml, hown, hts, hini, hbs, hL, hE⟩ := C
  have hs' := srel_cons hs
  clear hs
  obtain ⟨v1, st, rfl, ⟨c1, rfl, h1⟩, hs⟩ := hs'
  subst h1
  have hq : (c1 = 0) ↔ (c1.toInt = 0) := eq32
  refine lv_if_eq (tgt := x.toNat) hx hb hd (by omega) (fun z => ?_) (fun z => ?_)
  · rw [tgt, if_pos (hq.mp z)] at k
    exact k H locs ls _ ws tys he hK hP hD hS hRW hw hl hs
  · rw [tgt, if_neg (fun q => z (hq.mpr q))] at k
    exact k H locs ls _ ws tys he hK hP hD hS hRW hw hl hs
theorem sm_icmp_eq (C : Cx p s m args meth c base L xs ro mi) {a b x : Int} {off : Int} (hd : decode (cOf mi) pc = .ok (.if_icmp .eq off, 3)) (ht : (pc : Int) + off = x ∧ 0 ≤ x) (k : Sm p l e R s m args below meth c Q D base L xs ro mi ws0 cells slots (tgt (a = b) x (pc + 3)) pls pst sh w) : Sm p l e R s m args below meth c Q D base L xs ro mi ws0 cells slots pc pls (vI b :: vI a :: pst) sh w := by
  intro H locs ls st ws tys he hK hP hD hS hRW hw hl hs
  obtain ⟨hx, hb, hml, hown, hts, hini, hbs, hL, hE⟩ := C
  have hs' := srel_cons hs
  clear hs
  obtain ⟨v1, st, rfl, ⟨c1, rfl, h1⟩, hs⟩ := hs'
  have hs' := srel_cons hs
  clear hs
  obtain ⟨v2, st, rfl, ⟨c2, rfl, h2⟩, hs⟩ := hs'
  subst h1 h2
  have hq : (c2 = c1) ↔ (c2.toInt = c1.toInt) := eq32
  refine lv_icmp_eq (tgt := x.toNat) hx hb hd (by omega) (fun z => ?_) (fun z => ?_)
  · rw [tgt, if_pos (hq.mp z)] at k
    exact k H locs ls _ ws tys he hK hP hD hS hRW hw hl hs
  · rw [tgt, if_neg (fun q => z (hq.mpr q))] at k
    exact k H locs ls _ ws tys he hK hP hD hS hRW hw hl hs
theorem sm_if_ne (C : Cx p s m args meth c base L xs ro mi) {a x : Int} {off : Int} (hd : decode (cOf mi) pc = .ok (.ifCond .ne off, 3)) (ht : (pc : Int) + off = x ∧ 0 ≤ x) (k : Sm p l e R s m args below meth c Q D base L xs ro mi ws0 cells slots (tgt (a ≠ 0) x (pc + 3)) pls pst sh w) : Sm p l e R s m args below meth c Q D base L xs ro mi ws0 cells slots pc pls (vI a :: pst) sh w := by
  intro H locs ls st ws tys he hK hP hD hS hRW hw hl hs
  obtain ⟨hx, hb, hml, hown, hts, hini, hbs, hL, hE⟩ := C
  have hs' := srel_cons hs
  clear hs
  obtain ⟨v1, st, rfl, ⟨c1, rfl, h1⟩, hs⟩ := hs'
  subst h1
  have hq : (¬ c1 = 0) ↔ (c1.toInt ≠ 0) := not_congr eq32
  refine lv_if_ne (tgt := x.toNat) hx hb hd (by omega) (fun z => ?_) (fun z => ?_)
  · rw [tgt, if_pos (hq.mp z)] at k
    exact k H locs ls _ ws tys he hK hP hD hS hRW hw hl hs
  · rw [tgt, if_neg (fun q => (hq.mpr q) z)] at k
    exact k H locs ls _ ws tys he hK hP hD hS hRW hw hl hs
theorem sm_icmp_ne (C : Cx p s m args meth c base L xs ro mi) {a b x : Int} {off : Int} (hd : decode (cOf mi) pc = .ok (.if_icmp .ne off, 3)) (ht : (pc : Int) + off = x ∧ 0 ≤ x) (k : Sm p l e R s m args below meth c Q D base L xs ro mi ws0 cells slots (tgt (a ≠ b) x (pc + 3)) pls pst sh w) : Sm p l e R s m args below meth c Q D base L xs ro mi ws0 cells slots pc pls (vI b :: vI a :: pst) sh w := by
  intro H locs ls st ws tys he hK hP hD hS hRW hw hl hs
  obtain ⟨hx, hb, hml, hown, hts, hini, hbs, hL, hE⟩ := C
  have hs' := srel_cons hs
  clear hs
  obtain ⟨v1, st, rfl, ⟨c1, rfl, h1⟩, hs⟩ := hs'
  have hs' := srel_cons hs
  clear hs
  obtain ⟨v2, st, rfl, ⟨c2, rfl, h2⟩, hs⟩ := hs'
  subst h1 h2
  have hq : (¬ c2 = c1) ↔ (c2.toInt ≠ c1.toInt) := not_congr eq32
  refine lv_icmp_ne (tgt := x.toNat) hx hb hd (by omega) (fun z => ?_) (fun z => ?_)
  · rw [tgt, if_pos (hq.mp z)] at k
    exact k H locs ls _ ws tys he hK hP hD hS hRW hw hl hs
  · rw [tgt, if_neg (fun q => (hq.mpr q) z)] at k
    exact k H locs ls _ ws tys he hK hP hD hS hRW hw hl hs
theorem sm_if_lt (C : Cx p s m args meth c base L xs ro mi) {a x : Int} {off : Int} (hd : decode (cOf mi) pc = .ok (.ifCond .lt off, 3)) (ht : (pc : Int) + off = x ∧ 0 ≤ x) (k : Sm p l e R s m args below meth c Q D base L xs ro mi ws0 cells slots (tgt (a < 0) x (pc + 3)) pls pst sh w) : Sm p l e R s m args below meth c Q D base L xs ro mi ws0 cells slots pc pls (vI a :: pst) sh w := by
  intro H locs ls st ws tys he hK hP hD hS hRW hw hl hs
  obtain ⟨hx, hb, hml, hown, hts, hini, hbs, hL, hE⟩ := C
  have hs' := srel_cons hs
  clear hs
  obtain ⟨v1, st, rfl, ⟨c1, rfl, h1⟩, hs⟩ := hs'
  subst h1
  have hq : (c1 < 0) ↔ (c1.toInt < 0) := lt32
  refine lv_if_lt (tgt := x.toNat) hx hb hd (by omega) (fun z => ?_) (fun z => ?_)
  · rw [tgt, if_pos (hq.mp z)] at k
    exact k H locs ls _ ws tys he hK hP hD hS hRW hw hl hs
  · rw [tgt, if_neg (fun q => z (hq.mpr q))] at k
    exact k H locs ls _ ws tys he hK hP hD hS hRW hw hl hs
theorem sm_icmp_lt (C : Cx p s m args meth c base L xs ro mi) {a b x : Int} {off : Int} (hd : decode (cOf mi) pc = .ok (.if_icmp .lt off, 3)) (ht : (pc : Int) + off = x ∧ 0 ≤ x) (k : Sm p l e R s m args below meth c Q D base L xs ro mi ws0 cells slots (tgt (a < b) x (pc + 3)) pls pst sh w) : Sm p l e R s m args below meth c Q D base L xs ro mi ws0 cells slots pc pls (vI b :: vI a :: pst) sh w := by
  intro H locs ls st ws tys he hK hP hD hS hRW hw hl hs
  obtain ⟨hx, hb, hml, hown, hts, hini, hbs, hL, hE⟩ := C
  have hs' := srel_cons hs
  clear hs
  obtain ⟨v1, st, rfl, ⟨c1, rfl, h1⟩, hs⟩ := hs'
  have hs' := srel_cons hs
  clear hs
  obtain ⟨v2, st, rfl, ⟨c2, rfl, h2⟩, hs⟩ := hs'
  subst h1 h2
  have hq : (c2 < c1) ↔ (c2.toInt < c1.toInt) := lt32
  refine lv_icmp_lt (tgt := x.toNat) hx hb hd (by omega) (fun z => ?_) (fun z => ?_)
  · rw [tgt, if_pos (hq.mp z)] at k
    exact k H locs ls _ ws tys he hK hP hD hS hRW hw hl hs
  · rw [tgt, if_neg (fun q => z (hq.mpr q))] at k
    exact k H locs ls _ ws tys he hK hP hD hS hRW hw hl hs
theorem sm_if_ge (C : Cx p s m args meth c base L xs ro mi) {a x : Int} {off : Int} (hd : decode (cOf mi) pc = .ok (.ifCond .ge off, 3)) (ht : (pc : Int) + off = x ∧ 0 ≤ x) (k : Sm p l e R s m args below meth c Q D base L xs ro mi ws0 cells slots (tgt (0 ≤ a) x (pc + 3)) pls pst sh w) : Sm p l e R s m args below meth c Q D base L xs ro mi ws0 cells slots pc pls (vI a :: pst) sh w := by
  intro H locs ls st ws tys he hK hP hD hS hRW hw hl hs
  obtain ⟨hx, hb, hml, hown, hts, hini, hbs, hL, hE⟩ := C
  have hs' := srel_cons hs
  clear hs
  obtain ⟨v1, st, rfl, ⟨c1, rfl, h1⟩, hs⟩ := hs'
  subst h1
  have hq : (0 ≤ c1) ↔ (0 ≤ c1.toInt) := le32
  refine lv_if_ge (tgt := x.toNat) hx hb hd (by omega) (fun z => ?_) (fun z => ?_)
  · rw [tgt, if_pos (hq.mp z)] at k
    exact k H locs ls _ ws tys he hK hP hD hS hRW hw hl hs
  · rw [tgt, if_neg (fun q => z (hq.mpr q))] at k
    exact k H locs ls _ ws tys he hK hP hD hS hRW hw hl hs
theorem sm_icmp_ge (C : Cx p s m args meth c base L xs ro mi) {a b x : Int} {off : Int} (hd : decode (cOf mi) pc = .ok (.if_icmp .ge off, 3)) (ht : (pc : Int) + off = x ∧ 0 ≤ x) (k : Sm p l e R s m args below meth c Q D base L xs ro mi ws0 cells slots (tgt (b ≤ a) x (pc + 3)) pls pst sh w) : Sm p l e R s m args below meth c Q D base L xs ro mi ws0 cells slots pc pls (vI b :: vI a :: pst) sh w := by
  intro H locs ls st ws tys he hK hP hD hS hRW hw hl hs
  obtain ⟨hx, hb, hml, hown, hts, hini, hbs, hL, hE⟩ := C
  have hs' := srel_cons hs
  clear hs
  obtain ⟨v1, st, rfl, ⟨c1, rfl, h1⟩, hs⟩ := hs'
  have hs' := srel_cons hs
  clear hs
  obtain ⟨v2, st, rfl, ⟨c2, rfl, h2⟩, hs⟩ := hs'
  subst h1 h2
  have hq : (c1 ≤ c2) ↔ (c1.toInt ≤ c2.toInt) := le32
  refine lv_icmp_ge (tgt := x.toNat) hx hb hd (by omega) (fun z => ?_) (fun z => ?_)
  · rw [tgt, if_pos (hq.mp z)] at k
    exact k H locs ls _ ws tys he hK hP hD hS hRW hw hl hs
  · rw [tgt, if_neg (fun q => z (hq.mpr q))] at k
    exact k H locs ls _ ws tys he hK hP hD hS hRW hw hl hs
theorem sm_if_gt (C : Cx p s m args meth c base L xs ro mi) {a x : Int} {off : Int} (hd : decode (cOf mi) pc = .ok (.ifCond .gt off, 3)) (ht : (pc : Int) + off = x ∧ 0 ≤ x) (k : Sm p l e R s m args below meth c Q D base L xs ro mi ws0 cells slots (tgt (0 < a) x (pc + 3)) pls pst sh w) : Sm p l e R s m args below meth c Q D base L xs ro mi ws0 cells slots pc pls (vI a :: pst) sh w := by
  intro H locs ls st ws tys he hK hP hD hS hRW hw hl hs
  obtain ⟨hx, hb, hml, hown, hts, hini, hbs, hL, hE⟩ := C
  have hs' := srel_cons hs
  clear hs
  obtain ⟨v1, st, rfl, ⟨c1, rfl, h1⟩, hs⟩ := hs'
  subst h1
  have hq : (0 < c1) ↔ (0 < c1.toInt) := lt32
  refine lv_if_gt (tgt := x.toNat) hx hb hd (by omega) (fun z => ?_) (fun z => ?_)
  · rw [tgt, if_pos (hq.mp z)] at k
    exact k H locs ls _ ws tys he hK hP hD hS hRW hw hl hs
  · rw [tgt, if_neg (fun q => z (hq.mpr q))] at k
    exact k H locs ls _ ws tys he hK hP hD hS hRW hw hl hs
theorem sm_icmp_gt (C : Cx p s m args meth c base L xs ro mi) {a b x : Int} {off : Int} (hd : decode (cOf mi) pc = .ok (.if_icmp .gt off, 3)) (ht : (pc : Int) + off = x ∧ 0 ≤ x) (k : Sm p l e R s m args below meth c Q D base L xs ro mi ws0 cells slots (tgt (b < a) x (pc + 3)) pls pst sh w) : Sm p l e R s m args below meth c Q D base L xs ro mi ws0 cells slots pc pls (vI b :: vI a :: pst) sh w := by
  intro H locs ls st ws tys he hK hP hD hS hRW hw hl hs
  obtain ⟨hx, hb, hml, hown, hts, hini, hbs, hL, hE⟩ := C
  have hs' := srel_cons hs
  clear hs
  obtain ⟨v1, st, rfl, ⟨c1, rfl, h1⟩, hs⟩ := hs'
  have hs' := srel_cons hs
  clear hs
  obtain ⟨v2, st, rfl, ⟨c2, rfl, h2⟩, hs⟩ := hs'
  subst h1 h2
  have hq : (c1 < c2) ↔ (c1.toInt < c2.toInt) := lt32
  refine lv_icmp_gt (tgt := x.toNat) hx hb hd (by omega) (fun z => ?_) (fun z => ?_)
  · rw [tgt, if_pos (hq.mp z)] at k
    exact k H locs ls _ ws tys he hK hP hD hS hRW hw hl hs
  · rw [tgt, if_neg (fun q => z (hq.mpr q))] at k
    exact k H locs ls _ ws tys he hK hP hD hS hRW hw hl hs
theorem sm_if_le (C : Cx p s m args meth c base L xs ro mi) {a x : Int} {off : Int} (hd : decode (cOf mi) pc = .ok (.ifCond .le off, 3)) (ht : (pc : Int) + off = x ∧ 0 ≤ x) (k : Sm p l e R s m args below meth c Q D base L xs ro mi ws0 cells slots (tgt (a ≤ 0) x (pc + 3)) pls pst sh w) : Sm p l e R s m args below meth c Q D base L xs ro mi ws0 cells slots pc pls (vI a :: pst) sh w := by
  intro H locs ls st ws tys he hK hP hD hS hRW hw hl hs
  obtain ⟨hx, hb, hml, hown, hts, hini, hbs, hL, hE⟩ := C
  have hs' := srel_cons hs
  clear hs
  obtain ⟨v1, st, rfl, ⟨c1, rfl, h1⟩, hs⟩ := hs'
  subst h1
  have hq : (c1 ≤ 0) ↔ (c1.toInt ≤ 0) := le32
  refine lv_if_le (tgt := x.toNat) hx hb hd (by omega) (fun z => ?_) (fun z => ?_)
  · rw [tgt, if_pos (hq.mp z)] at k
    exact k H locs ls _ ws tys he hK hP hD hS hRW hw hl hs
  · rw [tgt, if_neg (fun q => z (hq.mpr q))] at k
    exact k H locs ls _ ws tys he hK hP hD hS hRW hw hl hs
theorem sm_icmp_le (C : Cx p s m args meth c base L xs ro mi) {a b x : Int} {off : Int} (hd : decode (cOf mi) pc = .ok (.if_icmp .le off, 3)) (ht : (pc : Int) + off = x ∧ 0 ≤ x) (k : Sm p l e R s m args below meth c Q D base L xs ro mi ws0 cells slots (tgt (a ≤ b) x (pc + 3)) pls pst sh w) : Sm p l e R s m args below meth c Q D base L xs ro mi ws0 cells slots pc pls (vI b :: vI a :: pst) sh w := by
  intro H locs ls st ws tys he hK hP hD hS hRW hw hl hs
  obtain ⟨hx, hb, hml, hown, hts, hini, hbs, hL, hE⟩ := C
  have hs' := srel_cons hs
  clear hs
  obtain ⟨v1, st, rfl, ⟨c1, rfl, h1⟩, hs⟩ := hs'
  have hs' := srel_cons hs
  clear hs
  obtain ⟨v2, st, rfl, ⟨c2, rfl, h2⟩, hs⟩ := hs'
  subst h1 h2
  have hq : (c2 ≤ c1) ↔ (c2.toInt ≤ c1.toInt) := le32
  refine lv_icmp_le (tgt := x.toNat) hx hb hd (by omega) (fun z => ?_) (fun z => ?_)
  · rw [tgt, if_pos (hq.mp z)] at k
    exact k H locs ls _ ws tys he hK hP hD hS hRW hw hl hs
  · rw [tgt, if_neg (fun q => z (hq.mpr q))] at k
    exact k H locs ls _ ws tys he hK hP hD hS hRW hw hl hs
theorem sm_goto (C : Cx p s m args meth c base L xs ro mi) {x off : Int} (hd : decode (cOf mi) pc = .ok (.goto off, 3)) (ht : (pc : Int) + off = x ∧ 0 ≤ x) (k : Sm p l e R s m args below meth c Q D base L xs ro mi ws0 cells slots x.toNat pls pst sh w) : Sm p l e R s m args below meth c Q D base L xs ro mi ws0 cells slots pc pls (pst) sh w := by
  intro H locs ls st ws tys he hK hP hD hS hRW hw hl hs
  obtain ⟨hx, hb, hml, hown, hts, hini, hbs, hL, hE⟩ := C
  refine lv_goto (tgt := x.toNat) hx hb hd (by omega) ?_
  exact k H locs ls _ ws tys he hK hP hD hS hRW hw hl hs
theorem sm_ifnull (C : Cx p s m args meth c base L xs ro mi) {r off : Int} (hr : ¬ r = -1) (hd : decode (cOf mi) pc = .ok (.ifnull off, 3)) (k : Sm p l e R s m args below meth c Q D base L xs ro mi ws0 cells slots (pc + 3) pls pst sh w) : Sm p l e R s m args below meth c Q D base L xs ro mi ws0 cells slots pc pls (vR r :: pst) sh w := by
  intro H locs ls st ws tys he hK hP hD hS hRW hw hl hs
  obtain ⟨hx, hb, hml, hown, hts, hini, hbs, hL, hE⟩ := C
  have hs' := srel_cons hs
  clear hs
  obtain ⟨v1, st, rfl, h1, hs⟩ := hs'
  rcases h1 with ⟨z, -⟩ | ⟨-, a, rfl, -⟩
  · exact absurd z hr
  refine lv_ifnull hx hb hd ?_
  exact k H locs ls _ ws tys he hK hP hD hS hRW hw hl hs
theorem sm_swOut (C : Cx p s m args meth c base L xs ro mi) {a dflt lo hi : Int} {offs : Array Int} {len : Nat} (ha : a < lo ∨ hi < a) (hd : decode (cOf mi) pc = .ok (.tableswitch dflt lo hi offs, len)) (ht : 0 ≤ (pc : Int) + dflt) (k : Sm p l e R s m args below meth c Q D base L xs ro mi ws0 cells slots ((pc : Int) + dflt).toNat pls pst sh w) : Sm p l e R s m args below meth c Q D base L xs ro mi ws0 cells slots pc pls (vI a :: pst) sh w := by
  intro H locs ls st ws tys he hK hP hD hS hRW hw hl hs
  obtain ⟨hx, hb, hml, hown, hts, hini, hbs, hL, hE⟩ := C
  have hs' := srel_cons hs
  clear hs
  obtain ⟨v1, st, rfl, ⟨c1, rfl, h1⟩, hs⟩ := hs'
  subst h1
  refine lv_tableOut (tgt := ((pc : Int) + dflt).toNat) hx hb hd ha (by omega) ?_
  exact k H locs ls _ ws tys he hK hP hD hS hRW hw hl hs
theorem sm_swIn (C : Cx p s m args meth c base L xs ro mi) {a dflt lo hi o : Int} {offs : Array Int} {len : Nat} (ha : ¬ (a < lo ∨ hi < a)) (ho : offs[(a - lo).toNat]? = some o) (hd : decode (cOf mi) pc = .ok (.tableswitch dflt lo hi offs, len)) (ht : 0 ≤ (pc : Int) + o) (k : Sm p l e R s m args below meth c Q D base L xs ro mi ws0 cells slots ((pc : Int) + o).toNat pls pst sh w) : Sm p l e R s m args below meth c Q D base L xs ro mi ws0 cells slots pc pls (vI a :: pst) sh w := by
  intro H locs ls st ws tys he hK hP hD hS hRW hw hl hs
  obtain ⟨hx, hb, hml, hown, hts, hini, hbs, hL, hE⟩ := C
  have hs' := srel_cons hs
  clear hs
  obtain ⟨v1, st, rfl, ⟨c1, rfl, h1⟩, hs⟩ := hs'
  subst h1
  refine lv_tableIn (tgt := ((pc : Int) + o).toNat) hx hb hd (fun z => ha (Or.inl z)) (fun z => ha (Or.inr z)) ho (by omega) ?_
  exact k H locs ls _ ws tys he hK hP hD hS hRW hw hl hs
end SIM
