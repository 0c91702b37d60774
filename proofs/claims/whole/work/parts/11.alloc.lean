/-! making cells -/
def slot1 (q : Nat × Nat) : Nat := if q.1 = 0 then NT q.2 else q.2
def slotsOf (sh : Shp) : Nat := (sh.map slot1).sum
theorem crel_tys {ro : Int → Option Nat} {ws : va_W} {tys t : List (ClassId × FieldType)} {s : Nat × Nat} {e : va_E} {f : Int → Int} (h : crel ro ws tys s e f) : crel ro ws (tys ++ t) s e f := by
  have ap : ∀ {t0 : Nat} {q : ClassId × FieldType}, tys[t0]? = some q → (tys ++ t)[t0]? = some q := fun h => by rw [List.getElem?_append_left (List.getElem?_eq_some_iff.mp h).1]; exact h
  obtain ⟨s1, s2⟩ := s
  match s1, h with
  | 0, h => exact h
  | 1, ⟨cA, g, t0, h1, h2, h3⟩ => exact ⟨cA, g, t0, h1, ap h2, h3⟩
  | 2, ⟨cA, g, t0, h1, h2, h3⟩ => exact ⟨cA, g, t0, h1, ap h2, h3⟩
  | 3, ⟨cA, g, t0, h1, h2, h3⟩ => exact ⟨cA, g, t0, h1, ap h2, h3⟩
  | 4, ⟨cA, g, t0, h1, h2, h3⟩ => exact ⟨cA, g, t0, h1, ap h2, h3⟩
  | 5, ⟨cA, g, t0, h1, h2, h3⟩ => exact ⟨cA, g, t0, h1, ap h2, h3⟩
  | 6, ⟨cA, g, t0, h1, h2, h3⟩ => exact ⟨cA, g, t0, h1, ap h2, h3⟩
  | 7, ⟨cA, g, t0, h1, h2, h3⟩ => exact ⟨cA, g, t0, h1, ap h2, h3⟩
theorem wrel_tys {ro : Int → Option Nat} {ws : va_W} {tys t : List (ClassId × FieldType)} {sh : Shp} {w : Hp} (h : wrel ro tys ws sh w) : wrel ro (tys ++ t) ws sh w := ⟨h.1, fun k s e h1 h2 => crel_tys (h.2 k s e h1 h2)⟩
theorem wrel_push {ro : Int → Option Nat} {ws : va_W} {tys : List (ClassId × FieldType)} {sh : Shp} {w w' : Hp} {q : Nat} {e : va_E} {s : Nat × Nat} (h : wrel ro tys ws sh w) (hc : crel ro (ws ++ [(q, e)]) tys s e (w' sh.length)) (ho : ∀ k : Nat, k < sh.length → w' k = w k) : wrel ro tys (ws ++ [(q, e)]) (sh ++ [s]) w' := by
  refine ⟨by rw [List.length_append, List.length_append, h.1]; rfl, fun k s' x hk hx => ?_⟩
  by_cases hl : k < sh.length
  · rw [List.getElem?_append_left hl] at hk
    rw [List.getElem?_append_left (by rw [h.1]; exact hl)] at hx
    rw [ho k hl]
    exact crel_ext (ext_app _ _) (h.2 k s' x hk hx)
  · rw [List.getElem?_append_right (by omega)] at hk
    rw [List.getElem?_append_right (by rw [h.1]; omega)] at hx
    have hz : k - sh.length < 1 := (List.getElem?_eq_some_iff.mp hk).1
    have hk0 : k = sh.length := by omega
    subst hk0
    rw [Nat.sub_self] at hk
    rw [h.1, Nat.sub_self] at hx
    cases hk
    cases hx
    exact hc
theorem new_ref {ro : Int → Option Nat} {ws : va_W} {tys : List (ClassId × FieldType)} {sh : Shp} {w : Hp} (h : wrel ro tys ws sh w) (q : Nat) (e : va_E) (r : va_W) : vrel ro (ws ++ ((q, e) :: r)) (.ref q) (vR sh.length) := by
  refine Or.inr ⟨by omega, q, rfl, ?_⟩
  unfold adr
  rw [if_pos (by omega), show ((sh.length : Nat) : Int).toNat = ws.length by rw [h.1]; omega, List.getElem?_append_right (Nat.le_refl _), Nat.sub_self]
  rfl
theorem fill_ne {w : Hp} {r : Int} {f : Int → Int} {a : Int} (h : a ≠ r) : fill w r f a = w a := by
  funext j
  unfold fill
  rw [if_neg h]
theorem fill_eq (w : Hp) (r : Int) (f : Int → Int) (j : Int) : fill w r f r j = f j := by
  unfold fill
  rw [if_pos rfl]
section SIM
variable {p : Program} {l : Launch} {e : Env} {R : Room} {s : State} {m : MethodId} {args : Array Value} {below : List Frame} {meth : Method} {c : Code} {Q : State → Prop} {D : va_G} {base L : Nat} {xs : Nat → Int32} {ro : Int → Option Nat} {mi : Nat} {ws0 : va_W} {cells slots : Nat} {pc : Nat} {pls : PL} {pst : List PV} {sh : Shp} {w : Hp}
theorem sm_new (C : Cx p s m args meth c base L xs ro mi) {x : Int} {idx : Nat} (hxi : x.toNat < 11) (hm : Cond.classLink (oOf mi) idx (CN x.toNat) ∈ WT) (hRc : cells + 1 ≤ R.cells ∧ slots + NT x.toNat ≤ R.slots) (hd : decode (cOf mi) pc = .ok (.new idx, 3)) (k : Sm p l e R s m args below meth c Q D base L xs ro mi ws0 (cells + 1) (slots + NT x.toNat) (pc + 3) pls (vR sh.length :: pst) (sh ++ [(0, x.toNat)]) (fill w sh.length (fun j => if fk x.toNat j.toNat = 2 then -1 else 0))) : Sm p l e R s m args below meth c Q D base L xs ro mi ws0 (cells) (slots) pc pls (pst) sh w := by
  intro H locs ls st ws tys he hK hP hD hS hRW hw hl hs
  obtain ⟨hx, hb, hml, hown, hts, hini, hbs, hL, hE⟩ := C
  have hA : ∀ q : Nat, s.heap.size ≤ q → (fun q : Nat => base ≤ q) q := fun q h => Nat.le_trans hbs h
  obtain ⟨T, ty, hcl, hT, hin, hty, hnm, hi1, hi2, hkd⟩ := cls_all _ hxi
  have hlen : ((List.range (NT x.toNat)).map (fun j => defaultValue (ty j))).length = NT x.toNat := by rw [List.length_map, List.length_range]
  have hat : ∀ j, j < NT x.toNat → ((List.range (NT x.toNat)).map (fun j => defaultValue (ty j)))[j]? = some (defaultValue (ty j)) := fun j hj => by rw [List.getElem?_map, List.getElem?_range hj]; rfl
  refine va_new (ci := x.toNat) (fs := (List.range (NT x.toNat)).map (fun j => defaultValue (ty j))) hx hb hts hin ty hty hown (hts _ hm) (hts _ hi1) (hts _ hi2) hK hP hD hS hA hcl (fun j hj => by show _ = List.getD _ _ _; rw [List.getD_eq_getElem?_getD, hat j hj]; rfl) hRc.1 hRc.2 hd (fun q H1 hP1 hD1 hS1 => ?_)
  refine k H1 locs ls _ _ tys (ext_tr he (ext_app _ _)) hK hP1 hD1 hS1 (hRW.of (fun a ha => fill_ne (by omega))) (wrel_push hw ⟨_, rfl, hxi, hlen, fun j v hj => ?_⟩ (fun k hk => fill_ne (by omega))) (lrel_ext (ext_app _ _) hl) ⟨new_ref hw q _ [], srel_ext (ext_app _ _) hs⟩
  have hjl : j < NT x.toNat := by rw [← hlen]; exact (List.getElem?_eq_some_iff.mp hj).1
  rw [hat j hjl] at hj
  cases hj
  rw [fill_eq]
  show frel ro _ (fk x.toNat j) _ (if fk x.toNat ((j : Int)).toNat = 2 then -1 else 0)
  rw [Int.toNat_natCast]
  rcases hkd j hjl with ⟨f1, f2⟩ | ⟨f1, f2⟩ | ⟨f1, f2⟩ | ⟨f1, f2⟩
  · rw [f1, f2, if_neg (by decide)]
    exact ⟨_, rfl, 0, rfl, rfl⟩
  · rw [f1, f2, if_neg (by decide)]
    exact ⟨_, rfl, 0, rfl, rfl⟩
  · rw [f1, if_pos rfl]
    generalize ty j = tt at f2 ⊢
    refine ⟨_, rfl, Or.inl ⟨rfl, ?_⟩⟩
    cases tt <;> first | rfl | cases f2
  · rw [f1, f2, if_neg (by decide)]
    exact ⟨_, rfl, 0, rfl, rfl⟩
theorem sm_newaI (C : Cx p s m args meth c base L xs ro mi) {n : Int} (hn : 0 ≤ n ∧ n ≤ 10000) (hm : Cond.arrayClass (newarray.typeOf .int) ∈ WT) (hRc : cells + 1 ≤ R.cells ∧ slots + n.toNat ≤ R.slots) (hd : decode (cOf mi) pc = .ok (.newarray .int, 2)) (k : Sm p l e R s m args below meth c Q D base L xs ro mi ws0 (cells + 1) (slots + n.toNat) (pc + 2) pls (vR sh.length :: pst) (sh ++ [(1, n.toNat)]) (fill w sh.length (fun _ => 0))) : Sm p l e R s m args below meth c Q D base L xs ro mi ws0 (cells) (slots) pc pls (vI n :: pst) sh w := by
  intro H locs ls st ws tys he hK hP hD hS hRW hw hl hs
  obtain ⟨hx, hb, hml, hown, hts, hini, hbs, hL, hE⟩ := C
  have hA : ∀ q : Nat, s.heap.size ≤ q → (fun q : Nat => base ≤ q) q := fun q h => Nat.le_trans hbs h
  have hs' := srel_cons hs
  clear hs
  obtain ⟨v1, st, rfl, ⟨c1, rfl, h1⟩, hs⟩ := hs'
  subst h1
  refine va_newa (N' := c1.toInt.toNat) (a0 := (c1.toInt.toNat, .inl (fun _ => 0))) hx hb (hts _ hm) (ty := .int) rfl hK hP hD hS hA (fun cA => rfl) (fun z => by rw [lt32] at z; have : (0 : Int32).toInt = 0 := rfl; omega) rfl (Nat.le_trans (Nat.mul_le_mul_right _ (show c1.toInt.toNat ≤ 10000 by omega)) (by decide)) hRc.1 hRc.2 hd (fun q cA H1 hK1 hP1 hD1 hS1 => ?_)
  refine k H1 locs ls _ _ _ (ext_tr he (ext_app _ _)) hK1 hP1 hD1 hS1 (hRW.of (fun a ha => fill_ne (by omega))) (wrel_push (wrel_tys hw) ⟨cA, fun _ => 0, tys.length, rfl, by rw [List.getElem?_append_right (Nat.le_refl _), Nat.sub_self]; rfl, fun j hj => ?_⟩ (fun k hk => fill_ne (by omega))) (lrel_ext (ext_app _ _) hl) ⟨new_ref hw q _ [], srel_ext (ext_app _ _) hs⟩
  rw [fill_eq]
  rfl
theorem sm_newaJ (C : Cx p s m args meth c base L xs ro mi) {n : Int} (hn : 0 ≤ n ∧ n ≤ 10000) (hm : Cond.arrayClass (newarray.typeOf .long) ∈ WT) (hRc : cells + 1 ≤ R.cells ∧ slots + n.toNat ≤ R.slots) (hd : decode (cOf mi) pc = .ok (.newarray .long, 2)) (k : Sm p l e R s m args below meth c Q D base L xs ro mi ws0 (cells + 1) (slots + n.toNat) (pc + 2) pls (vR sh.length :: pst) (sh ++ [(2, n.toNat)]) (fill w sh.length (fun _ => 0))) : Sm p l e R s m args below meth c Q D base L xs ro mi ws0 (cells) (slots) pc pls (vI n :: pst) sh w := by
  intro H locs ls st ws tys he hK hP hD hS hRW hw hl hs
  obtain ⟨hx, hb, hml, hown, hts, hini, hbs, hL, hE⟩ := C
  have hA : ∀ q : Nat, s.heap.size ≤ q → (fun q : Nat => base ≤ q) q := fun q h => Nat.le_trans hbs h
  have hs' := srel_cons hs
  clear hs
  obtain ⟨v1, st, rfl, ⟨c1, rfl, h1⟩, hs⟩ := hs'
  subst h1
  refine va_newa (N' := c1.toInt.toNat) (a0 := (c1.toInt.toNat, .inr (.inl (fun _ => 0)))) hx hb (hts _ hm) (ty := .long) rfl hK hP hD hS hA (fun cA => rfl) (fun z => by rw [lt32] at z; have : (0 : Int32).toInt = 0 := rfl; omega) rfl (Nat.le_trans (Nat.mul_le_mul_right _ (show c1.toInt.toNat ≤ 10000 by omega)) (by decide)) hRc.1 hRc.2 hd (fun q cA H1 hK1 hP1 hD1 hS1 => ?_)
  refine k H1 locs ls _ _ _ (ext_tr he (ext_app _ _)) hK1 hP1 hD1 hS1 (hRW.of (fun a ha => fill_ne (by omega))) (wrel_push (wrel_tys hw) ⟨cA, fun _ => 0, tys.length, rfl, by rw [List.getElem?_append_right (Nat.le_refl _), Nat.sub_self]; rfl, fun j hj => ?_⟩ (fun k hk => fill_ne (by omega))) (lrel_ext (ext_app _ _) hl) ⟨new_ref hw q _ [], srel_ext (ext_app _ _) hs⟩
  rw [fill_eq]
  rfl
theorem sm_newaB (C : Cx p s m args meth c base L xs ro mi) {n : Int} (hn : 0 ≤ n ∧ n ≤ 10000) (hm : Cond.arrayClass (newarray.typeOf .byte) ∈ WT) (hRc : cells + 1 ≤ R.cells ∧ slots + n.toNat ≤ R.slots) (hd : decode (cOf mi) pc = .ok (.newarray .byte, 2)) (k : Sm p l e R s m args below meth c Q D base L xs ro mi ws0 (cells + 1) (slots + n.toNat) (pc + 2) pls (vR sh.length :: pst) (sh ++ [(3, n.toNat)]) (fill w sh.length (fun _ => 0))) : Sm p l e R s m args below meth c Q D base L xs ro mi ws0 (cells) (slots) pc pls (vI n :: pst) sh w := by
  intro H locs ls st ws tys he hK hP hD hS hRW hw hl hs
  obtain ⟨hx, hb, hml, hown, hts, hini, hbs, hL, hE⟩ := C
  have hA : ∀ q : Nat, s.heap.size ≤ q → (fun q : Nat => base ≤ q) q := fun q h => Nat.le_trans hbs h
  have hs' := srel_cons hs
  clear hs
  obtain ⟨v1, st, rfl, ⟨c1, rfl, h1⟩, hs⟩ := hs'
  subst h1
  refine va_newa (N' := c1.toInt.toNat) (a0 := (c1.toInt.toNat, .inl (fun _ => 0))) hx hb (hts _ hm) (ty := .byte) rfl hK hP hD hS hA (fun cA => rfl) (fun z => by rw [lt32] at z; have : (0 : Int32).toInt = 0 := rfl; omega) rfl (Nat.le_trans (Nat.mul_le_mul_right _ (show c1.toInt.toNat ≤ 10000 by omega)) (by decide)) hRc.1 hRc.2 hd (fun q cA H1 hK1 hP1 hD1 hS1 => ?_)
  refine k H1 locs ls _ _ _ (ext_tr he (ext_app _ _)) hK1 hP1 hD1 hS1 (hRW.of (fun a ha => fill_ne (by omega))) (wrel_push (wrel_tys hw) ⟨cA, fun _ => 0, tys.length, rfl, by rw [List.getElem?_append_right (Nat.le_refl _), Nat.sub_self]; rfl, fun j hj => ?_⟩ (fun k hk => fill_ne (by omega))) (lrel_ext (ext_app _ _) hl) ⟨new_ref hw q _ [], srel_ext (ext_app _ _) hs⟩
  rw [fill_eq]
  rfl
theorem sm_newaZ (C : Cx p s m args meth c base L xs ro mi) {n : Int} (hn : 0 ≤ n ∧ n ≤ 10000) (hm : Cond.arrayClass (newarray.typeOf .boolean) ∈ WT) (hRc : cells + 1 ≤ R.cells ∧ slots + n.toNat ≤ R.slots) (hd : decode (cOf mi) pc = .ok (.newarray .boolean, 2)) (k : Sm p l e R s m args below meth c Q D base L xs ro mi ws0 (cells + 1) (slots + n.toNat) (pc + 2) pls (vR sh.length :: pst) (sh ++ [(4, n.toNat)]) (fill w sh.length (fun _ => 0))) : Sm p l e R s m args below meth c Q D base L xs ro mi ws0 (cells) (slots) pc pls (vI n :: pst) sh w := by
  intro H locs ls st ws tys he hK hP hD hS hRW hw hl hs
  obtain ⟨hx, hb, hml, hown, hts, hini, hbs, hL, hE⟩ := C
  have hA : ∀ q : Nat, s.heap.size ≤ q → (fun q : Nat => base ≤ q) q := fun q h => Nat.le_trans hbs h
  have hs' := srel_cons hs
  clear hs
  obtain ⟨v1, st, rfl, ⟨c1, rfl, h1⟩, hs⟩ := hs'
  subst h1
  refine va_newa (N' := c1.toInt.toNat) (a0 := (c1.toInt.toNat, .inl (fun _ => 0))) hx hb (hts _ hm) (ty := .boolean) rfl hK hP hD hS hA (fun cA => rfl) (fun z => by rw [lt32] at z; have : (0 : Int32).toInt = 0 := rfl; omega) rfl (Nat.le_trans (Nat.mul_le_mul_right _ (show c1.toInt.toNat ≤ 10000 by omega)) (by decide)) hRc.1 hRc.2 hd (fun q cA H1 hK1 hP1 hD1 hS1 => ?_)
  refine k H1 locs ls _ _ _ (ext_tr he (ext_app _ _)) hK1 hP1 hD1 hS1 (hRW.of (fun a ha => fill_ne (by omega))) (wrel_push (wrel_tys hw) ⟨cA, fun _ => 0, tys.length, rfl, by rw [List.getElem?_append_right (Nat.le_refl _), Nat.sub_self]; rfl, fun j hj => ?_⟩ (fun k hk => fill_ne (by omega))) (lrel_ext (ext_app _ _) hl) ⟨new_ref hw q _ [], srel_ext (ext_app _ _) hs⟩
  rw [fill_eq]
  rfl
theorem sm_newqS (C : Cx p s m args meth c base L xs ro mi) {n : Int} {idx : Nat} (hn : 0 ≤ n ∧ n ≤ 10000) (hm : Cond.classLink (oOf mi) idx "VotedHill$Strip" ∈ WT) (hRc : cells + 1 ≤ R.cells ∧ slots + n.toNat ≤ R.slots) (hd : decode (cOf mi) pc = .ok (.anewarray idx, 3)) (k : Sm p l e R s m args below meth c Q D base L xs ro mi ws0 (cells + 1) (slots + n.toNat) (pc + 3) pls (vR sh.length :: pst) (sh ++ [(5, n.toNat)]) (fill w sh.length (fun _ => -1))) : Sm p l e R s m args below meth c Q D base L xs ro mi ws0 (cells) (slots) pc pls (vI n :: pst) sh w := by
  intro H locs ls st ws tys he hK hP hD hS hRW hw hl hs
  obtain ⟨hx, hb, hml, hown, hts, hini, hbs, hL, hE⟩ := C
  have hA : ∀ q : Nat, s.heap.size ≤ q → (fun q : Nat => base ≤ q) q := fun q h => Nat.le_trans hbs h
  have hs' := srel_cons hs
  clear hs
  obtain ⟨v1, st, rfl, ⟨c1, rfl, h1⟩, hs⟩ := hs'
  subst h1
  refine va_newq (N' := c1.toInt.toNat) hx hb hown (hts _ hm) hE.2.2.2.2.2.1 hK hP hD hS hA (fun z => by rw [lt32] at z; have : (0 : Int32).toInt = 0 := rfl; omega) rfl (by omega) hRc.1 hRc.2 hd (fun q cA H1 hK1 hP1 hD1 hS1 => ?_)
  refine k H1 locs ls _ _ _ (ext_tr he (ext_app _ _)) hK1 hP1 hD1 hS1 (hRW.of (fun a ha => fill_ne (by omega))) (wrel_push (wrel_tys hw) ⟨cA, fun _ => none, tys.length, rfl, by rw [List.getElem?_append_right (Nat.le_refl _), Nat.sub_self]; rfl, fun j hj => ?_⟩ (fun k hk => fill_ne (by omega))) (lrel_ext (ext_app _ _) hl) ⟨new_ref hw q _ [], srel_ext (ext_app _ _) hs⟩
  rw [fill_eq]
  exact Or.inl ⟨rfl, rfl⟩
theorem sm_newqL (C : Cx p s m args meth c base L xs ro mi) {n : Int} {idx : Nat} (hn : 0 ≤ n ∧ n ≤ 10000) (hm : Cond.classLink (oOf mi) idx "VotedHill$Land" ∈ WT) (hRc : cells + 1 ≤ R.cells ∧ slots + n.toNat ≤ R.slots) (hd : decode (cOf mi) pc = .ok (.anewarray idx, 3)) (k : Sm p l e R s m args below meth c Q D base L xs ro mi ws0 (cells + 1) (slots + n.toNat) (pc + 3) pls (vR sh.length :: pst) (sh ++ [(6, n.toNat)]) (fill w sh.length (fun _ => -1))) : Sm p l e R s m args below meth c Q D base L xs ro mi ws0 (cells) (slots) pc pls (vI n :: pst) sh w := by
  intro H locs ls st ws tys he hK hP hD hS hRW hw hl hs
  obtain ⟨hx, hb, hml, hown, hts, hini, hbs, hL, hE⟩ := C
  have hA : ∀ q : Nat, s.heap.size ≤ q → (fun q : Nat => base ≤ q) q := fun q h => Nat.le_trans hbs h
  have hs' := srel_cons hs
  clear hs
  obtain ⟨v1, st, rfl, ⟨c1, rfl, h1⟩, hs⟩ := hs'
  subst h1
  refine va_newq (N' := c1.toInt.toNat) hx hb hown (hts _ hm) hE.2.2.2.2.2.2.1 hK hP hD hS hA (fun z => by rw [lt32] at z; have : (0 : Int32).toInt = 0 := rfl; omega) rfl (by omega) hRc.1 hRc.2 hd (fun q cA H1 hK1 hP1 hD1 hS1 => ?_)
  refine k H1 locs ls _ _ _ (ext_tr he (ext_app _ _)) hK1 hP1 hD1 hS1 (hRW.of (fun a ha => fill_ne (by omega))) (wrel_push (wrel_tys hw) ⟨cA, fun _ => none, tys.length, rfl, by rw [List.getElem?_append_right (Nat.le_refl _), Nat.sub_self]; rfl, fun j hj => ?_⟩ (fun k hk => fill_ne (by omega))) (lrel_ext (ext_app _ _) hl) ⟨new_ref hw q _ [], srel_ext (ext_app _ _) hs⟩
  rw [fill_eq]
  exact Or.inl ⟨rfl, rfl⟩
theorem any_int {ro : Int → Option Nat} {ws : va_W} {tys : List (ClassId × FieldType)} {sh : Shp} {w : Hp} (h : wrel ro tys ws sh w) (ha : sh.any (fun q => Nat.beq q.1 1) = true) : ∃ (t0 : Nat) (cA : ClassId), tys[t0]? = some (cA, .int) := by
  obtain ⟨q, hq, hb⟩ := List.any_eq_true.mp ha
  obtain ⟨k, hk⟩ := List.mem_iff_getElem?.mp hq
  have hlt : k < ws.length := by rw [h.1]; exact (List.getElem?_eq_some_iff.mp hk).1
  have hc := h.2 k q _ hk (List.getElem?_eq_getElem hlt)
  obtain ⟨q1, q2⟩ := q
  have h1 : q1 = 1 := Nat.eq_of_beq_eq_true hb
  subst h1
  obtain ⟨cA, g, t0, -, ht, -⟩ := hc
  exact ⟨t0, cA, ht⟩
theorem sm_multi (C : Cx p s m args meth c base L xs ro mi) {n kk : Int} {idx : Nat} (hn : 0 ≤ n ∧ n ≤ 100 ∧ 0 ≤ kk ∧ kk ≤ 1000) (ha : sh.any (fun q => Nat.beq q.1 1) = true) (hm : Cond.classLink (oOf mi) idx "[[I" ∈ WT) (hac : Cond.arrayClass .int ∈ WT) (hRc : cells + 1 + n.toNat ≤ R.cells ∧ slots + n.toNat + n.toNat * kk.toNat ≤ R.slots) (hd : decode (cOf mi) pc = .ok (.multianewarray idx 2, 4)) (k : Sm p l e R s m args below meth c Q D base L xs ro mi ws0 (cells + 1 + n.toNat) (slots + n.toNat + n.toNat * kk.toNat) (pc + 4) pls (vR sh.length :: pst) (sh ++ ((7, n.toNat) :: List.replicate n.toNat (1, kk.toNat))) (fun a j => if a = sh.length then (if 0 ≤ j ∧ j < n then (sh.length : Int) + 1 + j else -1) else if (sh.length : Int) < a ∧ a ≤ sh.length + n then 0 else w a j)) : Sm p l e R s m args below meth c Q D base L xs ro mi ws0 (cells) (slots) pc pls (vI kk :: vI n :: pst) sh w := by
  intro H locs ls st ws tys he hK hP hD hS hRW hw hl hs
  obtain ⟨hx, hb, hml, hown, hts, hini, hbs, hL, hE⟩ := C
  have hA : ∀ q : Nat, s.heap.size ≤ q → (fun q : Nat => base ≤ q) q := fun q h => Nat.le_trans hbs h
  have hs' := srel_cons hs
  clear hs
  obtain ⟨v1, st, rfl, ⟨c1, rfl, h1⟩, hs⟩ := hs'
  have hs' := srel_cons hs
  clear hs
  obtain ⟨v2, st, rfl, ⟨c2, rfl, h2⟩, hs⟩ := hs'
  subst h1 h2
  obtain ⟨t0, cy, ht0⟩ := any_int hw ha
  have hcy : s.vm.findClass (FieldType.array .int).toString = some cy := (hK.2 t0 _ ht0).2
  have hP0 : va_P D vwCl (ws ++ va_pl [] (fun _ => .inr (0, []))) H := by rw [show va_pl [] (fun _ => .inr (0, [])) = [] from rfl, List.append_nil]; exact hP
  have hD0 : va_D (fun q => base ≤ q) (ws ++ va_pl [] (fun _ => .inr (0, []))) := by rw [show va_pl [] (fun _ => .inr (0, [])) = [] from rfl, List.append_nil]; exact hD
  have h00 : (0 : Int32).toInt = 0 := rfl
  refine va_mna (ty := .int) (cy := cy) (N' := c2.toInt.toNat) (K' := c1.toInt.toNat) (z := (c1.toInt.toNat, .inl (fun _ => 0))) hx hb hown (hts _ hm) hE.2.2.2.2.2.2.2 (hts _ hac) hcy hK hP0 hD0 hS hA (fun z => by rw [lt32] at z; omega) (fun z => by rw [lt32] at z; omega) rfl rfl (by omega) (Nat.le_trans (Nat.mul_le_mul_right _ (show c1.toInt.toNat ≤ 1000 by omega)) (by decide)) (by omega) rfl rfl (by omega) (by omega) (fun c => ?_) hd (fun q r cA H1 hri hrL hK1 hP1 hD1 hS1 => ?_)
  · show ({ cls := c, slots := Array.replicate c1.toInt.toNat (.int 0), vm := .none } : Cell) = _
    rw [arrV_new]
    rfl
  · have hpl : va_pl ([] ++ (List.range c2.toInt.toNat).map r) (vr_up (fun _ => (.inr (0, []) : va_E)) ((List.range c2.toInt.toNat).map r) (.inl (cy, (c1.toInt.toNat, .inl (fun _ => 0))))) = (List.range c2.toInt.toNat).map (fun i => (r i, (.inl (cy, (c1.toInt.toNat, .inl (fun _ => 0))) : va_E))) := by
      unfold va_pl
      rw [List.nil_append, List.map_map]
      apply List.map_congr_left
      intro i hi
      show (r i, vr_up _ _ _ (r i)) = _
      rw [vr_up_in (List.mem_map.mpr ⟨i, hi, rfl⟩)]
    rw [hpl, List.append_assoc] at hP1 hD1
    have hat : ∀ i, i < c2.toInt.toNat → ((List.range c2.toInt.toNat).map (fun i => (r i, (.inl (cy, (c1.toInt.toNat, .inl (fun _ => 0))) : va_E))))[i]? = some (r i, .inl (cy, (c1.toInt.toNat, .inl (fun _ => 0)))) := fun i hi => by rw [List.getElem?_map, List.getElem?_range hi]; rfl
    generalize hM : (List.range c2.toInt.toNat).map (fun i => (r i, (.inl (cy, (c1.toInt.toNat, .inl (fun _ => 0))) : va_E))) = M at hP1 hD1 hat
    have hMl : M.length = c2.toInt.toNat := by rw [← hM, List.length_map, List.length_range]
    have hwl := hw.1
    refine k H1 locs ls _ _ _ (ext_tr he (ext_app _ _)) hK1 hP1 hD1 hS1 (hRW.of (fun a ha => by funext j; rw [if_neg (by omega), if_neg (by omega)])) ⟨by simp only [List.length_append, List.length_cons, List.length_nil, List.length_replicate, hMl, hwl]; omega, fun i s' x hi hxx => ?_⟩ (lrel_ext (ext_app _ _) hl) ⟨new_ref hw q _ M, srel_ext (ext_app _ _) hs⟩
    by_cases hl1 : i < sh.length
    · rw [List.getElem?_append_left hl1] at hi
      rw [List.getElem?_append_left (by omega)] at hxx
      dsimp only
      rw [show (fun j => if ((i : Nat) : Int) = sh.length then (if 0 ≤ j ∧ j < c2.toInt then (sh.length : Int) + 1 + j else -1) else if (sh.length : Int) < i ∧ (i : Int) ≤ sh.length + c2.toInt then 0 else w i j) = w i from by funext j; rw [if_neg (by omega), if_neg (by omega)]]
      exact crel_ext (ext_app _ _) (crel_tys (hw.2 i s' x hi hxx))
    · rw [List.getElem?_append_right (by omega)] at hi
      rw [List.getElem?_append_right (by omega)] at hxx
      by_cases hl2 : i = sh.length
      · subst hl2
        rw [Nat.sub_self] at hi
        rw [hwl, Nat.sub_self] at hxx
        cases hi
        cases hxx
        refine ⟨cA, _, tys.length, rfl, by rw [List.getElem?_append_right (Nat.le_refl _), Nat.sub_self]; rfl, fun j hj => ?_⟩
        dsimp only at hj ⊢
        rw [if_pos rfl, if_pos hj, if_pos (by omega)]
        refine Or.inr ⟨by omega, r j, rfl, ?_⟩
        unfold adr
        rw [if_pos (by omega), List.getElem?_append_right (by omega), show (((sh.length : Nat) : Int) + 1 + j).toNat - ws.length = j + 1 by omega]
        show (M[j]?).map _ = _
        rw [hat j hj]
        rfl
      · obtain ⟨i', rfl⟩ : ∃ i', i = sh.length + 1 + i' := ⟨i - sh.length - 1, by omega⟩
        rw [show sh.length + 1 + i' - sh.length = i' + 1 by omega] at hi
        rw [show sh.length + 1 + i' - ws.length = i' + 1 by omega] at hxx
        have hi2 : (List.replicate c2.toInt.toNat (1, c1.toInt.toNat))[i']? = some s' := hi
        have hx2 : M[i']? = some x := hxx
        have hlt : i' < c2.toInt.toNat := by have := (List.getElem?_eq_some_iff.mp hx2).1; omega
        rw [List.getElem?_replicate, if_pos hlt] at hi2
        rw [hat i' hlt] at hx2
        cases hi2
        cases hx2
        refine ⟨cy, fun _ => 0, t0, rfl, by rw [List.getElem?_append_left (List.getElem?_eq_some_iff.mp ht0).1]; exact ht0, fun j hj => ?_⟩
        dsimp only
        rw [if_neg (by omega), if_pos (by omega)]
        rfl
end SIM
