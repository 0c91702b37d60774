/-! the machine follows the pure one: calls, returns, the whole of a method -/
theorem alloc_mono {sh : Shp} {ins : Instr} {x : Int} {st : List PV} {w : Hp} {st' : List PV} {sh' : Shp} {w' : Hp} (h : allocOf sh ins x st w = some (st', sh', w')) : ∃ t, sh' = sh ++ t := by
  unfold allocOf at h
  split at h
  · split at h
    · cases h; exact ⟨_, rfl⟩
    · cases h
  · split at h
    · split at h
      · split at h
        · cases h; exact ⟨_, rfl⟩
        · cases h; exact ⟨_, rfl⟩
        · cases h; exact ⟨_, rfl⟩
        · cases h; exact ⟨_, rfl⟩
        · cases h
      · cases h
    · cases h
  · split at h
    · split at h
      · cases h; exact ⟨_, rfl⟩
      · cases h
    · cases h
  · split at h
    · split at h
      · cases h; exact ⟨_, rfl⟩
      · cases h
    · cases h
  · cases h
theorem ev_mono : ∀ (n d mi pc : Nat) (ls : PL) (st : List PV) (sh : Shp) (w : Hp) (v : Option PV) (sh1 : Shp) (w1 : Hp), ev n d mi pc ls st sh w = some (v, sh1, w1) → ∃ t, sh1 = sh ++ t := by
  intro n
  induction n with
  | zero => intro d mi pc ls st sh w v sh1 w1 h; cases h
  | succ n ih =>
    intro d mi pc ls st sh w v sh1 w1 h
    unfold ev at h
    split at h
    · cases h
    · split at h
      · split at h
        · cases h
        · split at h
          · split at h
            · cases h
            · rename_i hc
              obtain ⟨t1, h1⟩ := ih _ _ _ _ _ _ _ _ _ _ hc
              obtain ⟨t2, h2⟩ := ih _ _ _ _ _ _ _ _ _ _ h
              exact ⟨t1 ++ t2, by rw [h2, h1, List.append_assoc]⟩
          · cases h
      · split at h
        · cases h
          exact ⟨[], (List.append_nil _).symm⟩
        · split at h
          · rename_i ha
            obtain ⟨t1, h1⟩ := alloc_mono ha
            obtain ⟨t2, h2⟩ := ih _ _ _ _ _ _ _ _ _ _ h
            exact ⟨t1 ++ t2, by rw [h2, h1, List.append_assoc]⟩
          · split at h
            · exact ih _ _ _ _ _ _ _ _ _ _ h
            · cases h
theorem slots_app (a b : Shp) : slotsOf (a ++ b) = slotsOf a + slotsOf b := by
  unfold slotsOf
  rw [List.map_append, List.sum_append]
theorem srel_take {ro : Int → Option Nat} {ws : va_W} : ∀ (k : Nat) {vs : List Value} {qs : List PV}, srel ro ws vs qs → srel ro ws (vs.take k) (qs.take k) ∧ srel ro ws (vs.drop k) (qs.drop k)
  | 0, vs, qs, h => ⟨by simp [srel], by simpa using h⟩
  | _ + 1, [], [], _ => ⟨trivial, trivial⟩
  | k + 1, _ :: _, _ :: _, h => ⟨⟨h.1, (srel_take k h.2).1⟩, (srel_take k h.2).2⟩
theorem srel_app {ro : Int → Option Nat} {ws : va_W} : ∀ {a : List Value} {b : List PV} {c : List Value} {d : List PV}, srel ro ws a b → srel ro ws c d → srel ro ws (a ++ c) (b ++ d)
  | [], [], _, _, _, h => h
  | _ :: _, _ :: _, _, _, h1, h2 => ⟨h1.1, srel_app h1.2 h2⟩
theorem srel_rev {ro : Int → Option Nat} {ws : va_W} : ∀ {a : List Value} {b : List PV}, srel ro ws a b → srel ro ws a.reverse b.reverse
  | [], [], _ => trivial
  | _ :: _, _ :: _, h => by
    rw [List.reverse_cons, List.reverse_cons]
    exact srel_app (srel_rev h.2) ⟨h.1, trivial⟩
theorem vrel_cat2 {ro : Int → Option Nat} {ws : va_W} {v : Value} {a : Int} (h : vrel ro ws v (vL a)) : v.category = 2 := by
  obtain ⟨c, h, -⟩ := h
  rw [h]
  rfl
theorem spread_len {ro : Int → Option Nat} {ws : va_W} : ∀ {vs : List Value} {as : List PV}, srel ro ws vs as → (lg_sl vs).length = (spread as).length
  | [], [], _ => rfl
  | v :: vs, Sum.inl _ :: as, h => by
    have h1 := vrel_cat h.1 rfl
    have h2 := spread_len h.2
    unfold lg_sl at h2 ⊢
    simp [h1, spread, h2]
  | v :: vs, Sum.inr (Sum.inl _) :: as, h => by
    have h1 := vrel_cat2 h.1
    have h2 := spread_len h.2
    unfold lg_sl at h2 ⊢
    simp [h1, spread, h2]
  | v :: vs, Sum.inr (Sum.inr _) :: as, h => by
    have h1 := vrel_cat h.1 rfl
    have h2 := spread_len h.2
    unfold lg_sl at h2 ⊢
    simp [h1, spread, h2]
theorem spread_rel {ro : Int → Option Nat} {ws : va_W} : ∀ {vs : List Value} {as : List PV}, srel ro ws vs as → ∀ (k i : Nat) (pv : PV), (spread as)[i]? = some (some pv) → ∃ v, (k + i, v) ∈ lv_args k vs ∧ vrel ro ws v pv := by
  intro vs
  induction vs with
  | nil =>
    intro as h k i pv hi
    cases as with
    | nil => simp [spread] at hi
    | cons _ _ => exact absurd h (by simp [srel])
  | cons v vs ih =>
    intro as h k i pv hi
    cases as with
    | nil => exact absurd h (by simp [srel])
    | cons a as =>
      have one : isL a = false → spread (a :: as) = some a :: spread as → ∃ v', (k + i, v') ∈ lv_args k (v :: vs) ∧ vrel ro ws v' pv := by
        intro ha hsp
        have h1 := vrel_cat h.1 ha
        rw [hsp] at hi
        unfold lv_args
        rw [if_neg (by rw [h1]; decide)]
        cases i with
        | zero =>
          cases hi
          exact ⟨v, List.mem_cons_self, h.1⟩
        | succ i =>
          obtain ⟨v', m1, m2⟩ := ih h.2 (k + 1) i pv hi
          exact ⟨v', List.mem_cons_of_mem _ (by rw [show k + (i + 1) = k + 1 + i by omega]; exact m1), m2⟩
      match a, h, hi, one with
      | Sum.inl x, h, hi, one => exact one rfl rfl
      | Sum.inr (Sum.inr x), h, hi, one => exact one rfl rfl
      | Sum.inr (Sum.inl x), h, hi, one =>
        have h1 := vrel_cat2 h.1
        unfold lv_args
        rw [if_pos h1]
        match i, hi with
        | 0, hi =>
          cases hi
          exact ⟨v, List.mem_cons_self, h.1⟩
        | 1, hi => cases hi
        | i + 2, hi =>
          obtain ⟨v', m1, m2⟩ := ih h.2 (k + 2) i pv hi
          exact ⟨v', List.mem_cons_of_mem _ (by rw [show k + (i + 2) = k + 2 + i by omega]; exact m1), m2⟩
theorem entry_rel {ro : Int → Option Nat} {ws : va_W} {vs : List Value} {as : List PV} {j : Nat} (h : srel ro ws vs as) (hl : (spread as).length ≤ mLoc j) : lrel ro ws (mLoc j) ((lg_sl vs ++ List.replicate (mLoc j - (lg_sl vs).length) Slot.unset).toArray) (entryLs j as) := by
  refine ⟨lv_args 0 vs, lv_entry vs (by rw [spread_len h]; exact hl), ?_, fun i pv hi => ?_⟩
  · unfold entryLs
    rw [List.length_append, List.length_replicate]
    omega
  · unfold entryLs at hi
    by_cases hlt : i < (spread as).length
    · rw [List.getElem?_append_left hlt] at hi
      have := spread_rel h 0 i pv hi
      rw [Nat.zero_add] at this
      exact this
    · rw [List.getElem?_append_right (by omega), List.getElem?_replicate] at hi
      split at hi <;> cases hi
theorem Env0.at {base L : Nat} {xs : Nat → Int32} {ro : Int → Option Nat} {s U : State} {H H1 : Heap} (h : Env0 base L xs ro s H) (hb : base ≤ H.size) (hW : s.WarmedH U.vm) (hk : ∀ q : Nat, q < H.size → ¬ base ≤ q → H1[q]? = H[q]?) : Env0 base L xs ro U H1 := by
  obtain ⟨⟨b, h1, h2, h3⟩, h4, h5, h6, h7, h8, h9, h10⟩ := h
  have st : ∀ {C n d : String} {ty : FieldType} {N : Nat} {K : Nat → Int} {r : Option Nat}, stO base C n d ty N K r s H → stO base C n d ty N K r U H1 := fun ⟨t, q1, q2, q3⟩ => ⟨t, q1, (q2.kept hk).moved hW.alike, (q3.kept hk).moved hW.alike⟩
  exact ⟨⟨b, h1, h2, (h3.kept (hk b (by omega) (by omega))).moved hW.alike⟩, st h4, st h5, st h6, fun a i y h hm => va_Nw.warmM hW (h7 a i y h hm), h8.moved hW.alike, h9.moved hW.alike, over_moved hW.alike h10⟩
theorem Env0.calling {base L : Nat} {xs : Nat → Int32} {ro : Int → Option Nat} {U : State} {H : Heap} {g : JFrame} {mk : MethodId} {a : Array Value} (h : Env0 base L xs ro U H) : Env0 base L xs ro (U.calling g mk a) H := by
  obtain ⟨⟨b, h1, h2, h3⟩, h4, h5, h6, h7, h8, h9, h10⟩ := h
  have hal : U.vm.Alike (U.calling g mk a).vm := Vm.Alike.refl U.vm
  have st : ∀ {C n d : String} {ty : FieldType} {N : Nat} {K : Nat → Int} {r : Option Nat}, stO base C n d ty N K r U H → stO base C n d ty N K r (U.calling g mk a) H := fun ⟨t, q1, q2, q3⟩ => ⟨t, q1, q2.moved hal, q3.moved hal⟩
  exact ⟨⟨b, h1, h2, h3.moved hal⟩, st h4, st h5, st h6, fun a i y h hm => va_Nw.same rfl rfl (h7 a i y h hm), h8.moved hal, h9.moved hal, over_moved hal h10⟩
/-- a method's start: the arguments, the world, what is read only -/
def PcS (base L : Nat) (xs : Nat → Int32) (ro : Int → Option Nat) (D : va_G) (ws : va_W) (tys : List (ClassId × FieldType)) (avs : List Value) : Array Value → State → Prop := va_Pc avs (fun U => base ≤ U.heap.size ∧ va_P D vwCl ws U.heap ∧ va_K D vwCl tys U ∧ va_D (fun q => base ≤ q) ws ∧ Env0 base L xs ro U U.heap)
/-- its end: the pure answer, the pure world -/
def QcS (base L : Nat) (xs : Nat → Int32) (ro : Int → Option Nat) (D : va_G) (ws : va_W) (v : Option PV) (sh1 : Shp) (w1 : Hp) : Array Value → State → Outcome → State → Prop := fun _ st oc t =>
  (∃ (cv : Option Value) (ws1 : va_W) (tys1 : List (ClassId × FieldType)), oc = .returned cv ∧ srel ro ws1 cv.toList v.toList ∧ ext ws ws1 ∧ va_K D vwCl tys1 t ∧ va_P D vwCl ws1 t.heap ∧ va_D (fun q => base ≤ q) ws1 ∧ wrel ro tys1 ws1 sh1 w1 ∧ RW L xs w1) ∧ va_F (fun q => base ≤ q) st t
theorem PcS_blind {base L : Nat} {xs : Nat → Int32} {ro : Int → Option Nat} {D : va_G} {ws : va_W} {tys : List (ClassId × FieldType)} {avs : List Value} : FrameBlind (PcS base L xs ro D ws tys avs) := by
  intro a U g mk h
  obtain ⟨h1, h2, h3, h4, h5, h6⟩ := h
  exact ⟨h1, h2, h3, va_K.moved (u := U) (U := U.calling g mk a) (Vm.Alike.refl U.vm) h4, h5, h6.calling⟩
section SIM
variable {p : Program} {l : Launch} {e : Env} {R : Room} {s : State} {m : MethodId} {args : Array Value} {below : List Frame} {meth : Method} {c : Code} {Q : State → Prop} {D : va_G} {base L : Nat} {xs : Nat → Int32} {ro : Int → Option Nat} {mi : Nat} {ws0 : va_W} {cells slots : Nat} {pc : Nat} {pls : PL} {pst : List PV} {sh : Shp} {w : Hp}
theorem sm_alloc (C : Cx p s m args meth c base L xs ro mi) {ins : Instr} {len pos cells' slots' : Nat} {x : Int} {pst' : List PV} {sh' : Shp} {w' : Hp} (hd : decode (cOf mi) pc = .ok (ins, len)) (hlen : len = lenOf ins len) (hok : okWord mi (oOf mi) pc ins x pos = true) (h : allocOf sh ins x pst w = some (pst', sh', w')) (hc : cells + sh'.length = cells' + sh.length) (hsl : slots + slotsOf sh' = slots' + slotsOf sh) (hRc : cells' ≤ R.cells ∧ slots' ≤ R.slots) (k : Sm p l e R s m args below meth c Q D base L xs ro mi ws0 cells' slots' (pc + len) pls pst' sh' w') : Sm p l e R s m args below meth c Q D base L xs ro mi ws0 (cells) (slots) pc pls pst sh w := by
  have one : ∀ q : Nat × Nat, slotsOf (sh ++ [q]) = slotsOf sh + slot1 q := fun q => by rw [slots_app]; simp [slotsOf]
  unfold allocOf at h
  split at h
  · obtain rfl : len = 3 := hlen
    rw [okWord, Bool.and_eq_true] at hok
    split at h
    · rename_i hx11
      cases h
      rw [one] at hsl
      have h2 : slot1 (0, x.toNat) = NT x.toNat := if_pos rfl
      rw [List.length_append] at hc
      obtain rfl : cells' = cells + 1 := by simp at hc; omega
      obtain rfl : slots' = slots + NT x.toNat := by omega
      exact sm_new C hx11 (WT_in hok.2 rfl) hRc hd k
    · cases h
  · obtain rfl : len = 2 := hlen
    split at h
    · split at h
      · rename_i hn
        split at h
        · cases h
          rw [one] at hsl
          rename_i n _ _
          have h2 : slot1 (1, n.toNat) = n.toNat := if_neg (Nat.succ_ne_zero _)
          rw [List.length_append] at hc
          obtain rfl : cells' = cells + 1 := by simp at hc; omega
          obtain rfl : slots' = slots + n.toNat := by omega
          exact sm_newaI C hn (WT_in hok rfl) hRc hd k
        · cases h
          rw [one] at hsl
          rename_i n _ _
          have h2 : slot1 (2, n.toNat) = n.toNat := if_neg (Nat.succ_ne_zero _)
          rw [List.length_append] at hc
          obtain rfl : cells' = cells + 1 := by simp at hc; omega
          obtain rfl : slots' = slots + n.toNat := by omega
          exact sm_newaJ C hn (WT_in hok rfl) hRc hd k
        · cases h
          rw [one] at hsl
          rename_i n _ _
          have h2 : slot1 (3, n.toNat) = n.toNat := if_neg (Nat.succ_ne_zero _)
          rw [List.length_append] at hc
          obtain rfl : cells' = cells + 1 := by simp at hc; omega
          obtain rfl : slots' = slots + n.toNat := by omega
          exact sm_newaB C hn (WT_in hok rfl) hRc hd k
        · cases h
          rw [one] at hsl
          rename_i n _ _
          have h2 : slot1 (4, n.toNat) = n.toNat := if_neg (Nat.succ_ne_zero _)
          rw [List.length_append] at hc
          obtain rfl : cells' = cells + 1 := by simp at hc; omega
          obtain rfl : slots' = slots + n.toNat := by omega
          exact sm_newaZ C hn (WT_in hok rfl) hRc hd k
        · cases h
      · cases h
    · cases h
  · obtain rfl : len = 3 := hlen
    split at h
    · split at h
      · rename_i n _ hn
        cases h
        obtain ⟨hn0, hn1, hx56⟩ := hn
        rw [one] at hsl
        rw [List.length_append] at hc
        obtain rfl : cells' = cells + 1 := by simp at hc; omega
        rcases hx56 with rfl | rfl
        · have h2 : slot1 (5, n.toNat) = n.toNat := if_neg (Nat.succ_ne_zero _)
          obtain rfl : slots' = slots + n.toNat := by
            have h3 : slot1 ((5 : Int).toNat, n.toNat) = n.toNat := h2
            omega
          refine sm_newqS C ⟨hn0, hn1⟩ (WT_in (p := pos) ?_ rfl) hRc hd k
          simpa [okWord] using hok
        · have h2 : slot1 (6, n.toNat) = n.toNat := if_neg (Nat.succ_ne_zero _)
          obtain rfl : slots' = slots + n.toNat := by
            have h3 : slot1 ((6 : Int).toNat, n.toNat) = n.toNat := h2
            omega
          refine sm_newqL C ⟨hn0, hn1⟩ (WT_in (p := pos) ?_ rfl) hRc hd k
          simpa [okWord] using hok
      · cases h
    · cases h
  · obtain rfl : len = 4 := hlen
    split at h
    · split at h
      · rename_i kk n _ hn
        cases h
        obtain ⟨hn0, hn1, hn2, hn3, rfl, hany⟩ := hn
        have h2 : slotsOf (sh ++ ((7, n.toNat) :: List.replicate n.toNat (1, kk.toNat))) = slotsOf sh + n.toNat + n.toNat * kk.toNat := by
          rw [slots_app]
          simp [slotsOf, slot1, List.map_replicate, List.sum_replicate_nat]
          omega
        rw [h2] at hsl
        rw [List.length_append, List.length_cons, List.length_replicate] at hc
        obtain rfl : cells' = cells + 1 + n.toNat := by omega
        obtain rfl : slots' = slots + n.toNat + n.toNat * kk.toNat := by omega
        exact sm_multi C ⟨hn0, hn1, hn2, hn3⟩ hany (WT_in hok rfl) (WT_in (p := 163) (by decide +kernel) rfl) hRc hd k
      · cases h
    · cases h
  · cases h

end SIM
