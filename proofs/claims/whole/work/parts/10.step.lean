/-! one pure step is one step of the machine -/
section SIM
variable {p : Program} {l : Launch} {e : Env} {R : Room} {s : State} {m : MethodId} {args : Array Value} {below : List Frame} {meth : Method} {c : Code} {Q : State → Prop} {D : va_G} {base L : Nat} {xs : Nat → Int32} {ro : Int → Option Nat} {mi : Nat} {ws0 : va_W} {cells slots : Nat} {pc : Nat} {pls : PL} {pst : List PV} {sh : Shp} {w : Hp}
set_option maxHeartbeats 4000000 in
theorem sm_step (C : Cx p s m args meth c base L xs ro mi) {ins : Instr} {len pos : Nat} {x : Int} {pc' : Nat} {pls' : PL} {pst' : List PV} {w' : Hp} (hR : 1 ≤ R.frames ∧ 40 ≤ R.locals) (hcs : cells ≤ R.cells ∧ slots ≤ R.slots) (hd : decode (cOf mi) pc = .ok (ins, len)) (hlen : len = lenOf ins len) (hok : okWord mi (oOf mi) pc ins x pos = true) (h : step1 sh ins len x pc pls pst w = some (pc', pls', pst', w')) (k : Sm p l e R s m args below meth c Q D base L xs ro mi ws0 cells slots pc' pls' pst' sh w') : Sm p l e R s m args below meth c Q D base L xs ro mi ws0 cells slots pc pls pst sh w := by
  unfold step1 at h
  split at h
  · obtain rfl : len = 1 := hlen
    split at h
    · rename_i hg
      split at h
      · cases h
      · rename_i hr
        cases h
        exact sm_aload_n C hr hg hd k
    · cases h
  · obtain rfl : len = 2 := hlen
    split at h
    · rename_i hg
      split at h
      · cases h
      · rename_i hr
        cases h
        exact sm_aload C hr hg hd k
    · cases h
  · obtain rfl : len = 1 := hlen
    split at h
    · rename_i hg
      cases h
      exact sm_iload_n C hg hd k
    · cases h
  · obtain rfl : len = 2 := hlen
    split at h
    · rename_i hg
      cases h
      exact sm_iload C hg hd k
    · cases h
  · obtain rfl : len = 1 := hlen
    split at h
    · rename_i hg
      cases h
      exact sm_lload_n C hg hd k
    · cases h
  · obtain rfl : len = 2 := hlen
    split at h
    · rename_i hg
      cases h
      exact sm_lload C hg hd k
    · cases h
  · obtain rfl : len = 1 := hlen
    split at h
    · split at h
      · rename_i hk
        cases h
        exact sm_istore_n C hk hd k
      · cases h
    · cases h
  · obtain rfl : len = 2 := hlen
    split at h
    · split at h
      · rename_i hk
        cases h
        exact sm_istore C hk hd k
      · cases h
    · cases h
  · obtain rfl : len = 1 := hlen
    split at h
    · split at h
      · cases h
      · rename_i hr
        split at h
        · rename_i hk
          cases h
          exact sm_astore_n C hr hk hd k
        · cases h
    · cases h
  · obtain rfl : len = 1 := hlen
    split at h
    · split at h
      · rename_i hk
        cases h
        exact sm_lstore_n C hk hd k
      · cases h
    · cases h
  · obtain rfl : len = 2 := hlen
    split at h
    · split at h
      · rename_i hk
        cases h
        exact sm_lstore C hk hd k
      · cases h
    · cases h
  · obtain rfl : len = 3 := hlen
    split at h
    · rename_i hg
      cases h
      exact sm_iinc C hg hd k
    · cases h
  · obtain rfl : len = 1 := hlen
    cases h
    exact sm_iconst C hd k
  · obtain rfl : len = 2 := hlen
    cases h
    exact sm_bipush C hd k
  · obtain rfl : len = 3 := hlen
    cases h
    exact sm_sipush C hd k
  · obtain rfl : len = 2 := hlen
    cases h
    exact sm_ldc C (WT_in hok rfl) hd k
  · obtain rfl : len = 3 := hlen
    cases h
    exact sm_ldc_w C (WT_in hok rfl) hd k
  · obtain rfl : len = 3 := hlen
    cases h
    exact sm_ldc2_w C (WT_in hok rfl) hd k
  · obtain rfl : len = 1 := hlen
    cases h
    exact sm_lconst C hd k
  · obtain rfl : len = 1 := hlen
    cases h
    exact sm_null C hd k
  · obtain rfl : len = 1 := hlen
    split at h
    · cases h
      exact sm_dupI C hd k
    · cases h
      exact sm_dupR C hd k
    · cases h
  · obtain rfl : len = 1 := hlen
    split at h
    · cases h
      exact sm_dup2 C hd k
    · cases h
  · obtain rfl : len = 1 := hlen
    split at h
    · cases h
      exact sm_pop C hd k
    · cases h
  · obtain rfl : len = 1 := hlen
    split at h
    · cases h
      exact sm_iadd C hd k
    · cases h
  · obtain rfl : len = 1 := hlen
    split at h
    · cases h
      exact sm_isub C hd k
    · cases h
  · obtain rfl : len = 1 := hlen
    split at h
    · cases h
      exact sm_imul C hd k
    · cases h
  · obtain rfl : len = 1 := hlen
    split at h
    · split at h
      · cases h
      · rename_i hn
        cases h
        exact sm_idiv C hn hd k
    · cases h
  · obtain rfl : len = 1 := hlen
    split at h
    · split at h
      · cases h
      · rename_i hn
        cases h
        exact sm_irem C hn hd k
    · cases h
  · obtain rfl : len = 1 := hlen
    split at h
    · cases h
      exact sm_ineg C hd k
    · cases h
  · obtain rfl : len = 1 := hlen
    split at h
    · cases h
      exact sm_iand C hd k
    · cases h
  · obtain rfl : len = 1 := hlen
    split at h
    · cases h
      exact sm_ior C hd k
    · cases h
  · obtain rfl : len = 1 := hlen
    split at h
    · cases h
      exact sm_ixor C hd k
    · cases h
  · obtain rfl : len = 1 := hlen
    split at h
    · cases h
      exact sm_ishl C hd k
    · cases h
  · obtain rfl : len = 1 := hlen
    split at h
    · cases h
      exact sm_ishr C hd k
    · cases h
  · obtain rfl : len = 1 := hlen
    split at h
    · cases h
      exact sm_iushr C hd k
    · cases h
  · obtain rfl : len = 1 := hlen
    split at h
    · cases h
      exact sm_i2l C hd k
    · cases h
  · obtain rfl : len = 1 := hlen
    split at h
    · cases h
      exact sm_l2i C hd k
    · cases h
  · obtain rfl : len = 1 := hlen
    split at h
    · cases h
      exact sm_i2b C hd k
    · cases h
  · obtain rfl : len = 1 := hlen
    split at h
    · cases h
      exact sm_ladd C hd k
    · cases h
  · obtain rfl : len = 1 := hlen
    split at h
    · cases h
      exact sm_lmul C hd k
    · cases h
  · obtain rfl : len = 1 := hlen
    split at h
    · split at h
      · cases h
      · rename_i hn
        cases h
        exact sm_ldiv C hn hd k
    · cases h
  · obtain rfl : len = 1 := hlen
    split at h
    · split at h
      · cases h
      · rename_i hn
        cases h
        exact sm_lrem C hn hd k
    · cases h
  · obtain rfl : len = 1 := hlen
    split at h
    · cases h
      exact sm_lcmp C hd k
    · cases h
  · obtain rfl : len = 3 := hlen
    cases h
    exact sm_goto C hd (of_decide_eq_true hok) k
  · obtain rfl : len = 3 := hlen
    split at h
    · split at h
      · cases h
        exact sm_if_eq C hd (of_decide_eq_true hok) k
      · cases h
        exact sm_if_ne C hd (of_decide_eq_true hok) k
      · cases h
        exact sm_if_lt C hd (of_decide_eq_true hok) k
      · cases h
        exact sm_if_ge C hd (of_decide_eq_true hok) k
      · cases h
        exact sm_if_gt C hd (of_decide_eq_true hok) k
      · cases h
        exact sm_if_le C hd (of_decide_eq_true hok) k
    · cases h
  · obtain rfl : len = 3 := hlen
    split at h
    · split at h
      · cases h
        exact sm_icmp_eq C hd (of_decide_eq_true hok) k
      · cases h
        exact sm_icmp_ne C hd (of_decide_eq_true hok) k
      · cases h
        exact sm_icmp_lt C hd (of_decide_eq_true hok) k
      · cases h
        exact sm_icmp_ge C hd (of_decide_eq_true hok) k
      · cases h
        exact sm_icmp_gt C hd (of_decide_eq_true hok) k
      · cases h
        exact sm_icmp_le C hd (of_decide_eq_true hok) k
    · cases h
  · obtain rfl : len = 3 := hlen
    split at h
    · split at h
      · cases h
      · rename_i hr
        cases h
        exact sm_ifnull C hr hd k
    · cases h
  · rw [okWord, Bool.and_eq_true] at hok
    split at h
    · split at h
      · rename_i ha
        cases h
        exact sm_swOut C ha hd (of_decide_eq_true hok.1) k
      · rename_i ha
        split at h
        · rename_i o ho
          cases h
          have h2 := List.all_eq_true.mp hok.2 o (by rw [← Array.getElem?_toList] at ho; exact List.mem_of_getElem? ho)
          exact sm_swIn C ha ho hd (of_decide_eq_true h2) k
        · cases h
    · cases h
  · obtain rfl : len = 3 := hlen
    rw [okWord, Bool.and_eq_true] at hok
    split at h
    · split at h
      · rename_i hsx
        split at h
        · rename_i ht
          cases h
          exact sm_getfield C hsx (of_decide_eq_true hok.1) (WT_in hok.2 rfl) ht hd k
        · cases h
      · cases h
    · cases h
  · obtain rfl : len = 3 := hlen
    rw [okWord, Bool.and_eq_true, Bool.and_eq_true] at hok
    split at h
    · split at h
      · rename_i hsx
        split at h
        · rename_i ht
          cases h
          refine sm_putfield C hsx (of_decide_eq_true hok.1.1) (WT_in hok.1.2 rfl) (fun hf => ?_) ht hd k
          have h3 := hok.2
          rw [hf, Bool.not_true, Bool.false_or, Bool.and_eq_true] at h3
          exact ⟨of_decide_eq_true h3.1, of_decide_eq_true h3.2⟩
        · cases h
      · cases h
    · cases h
  · obtain rfl : len = 3 := hlen
    rw [okWord, Bool.and_eq_true] at hok
    cases h
    exact sm_getstatic C (of_decide_eq_true hok.1) (WT_in hok.2 rfl) hd k
  · obtain rfl : len = 1 := hlen
    split at h
    · split at h
      · rename_i h0
        split at h
        · rename_i hsx
          split at h
          · rename_i hn
            cases h
            exact sm_alenH C (shAt_of h0 hsx) hn hd k
          · cases h
        · cases h
      · split at h
        · rename_i hr
          cases h
          exact sm_alenO C hr.1 hd k
        · cases h
    · cases h
  · obtain rfl : len = 1 := hlen
    split at h
    · split at h
      · rename_i hg
        cases h
        exact sm_iaload C hg hd k
      · cases h
    · cases h
  · obtain rfl : len = 1 := hlen
    split at h
    · split at h
      · rename_i hg
        cases h
        exact sm_caload C hg hd k
      · cases h
    · cases h
  · obtain rfl : len = 1 := hlen
    split at h
    · split at h
      · rename_i hg
        cases h
        exact sm_baload C hg hd k
      · cases h
    · cases h
  · obtain rfl : len = 1 := hlen
    split at h
    · split at h
      · rename_i hg
        cases h
        exact sm_laload C hg hd k
      · cases h
    · cases h
  · obtain rfl : len = 1 := hlen
    split at h
    · split at h
      · rename_i hg
        cases h
        exact sm_aaload C hg hd k
      · cases h
    · cases h
  · obtain rfl : len = 1 := hlen
    split at h
    · split at h
      · rename_i hg
        cases h
        exact sm_iastore C hg hd k
      · cases h
    · cases h
  · obtain rfl : len = 1 := hlen
    split at h
    · split at h
      · rename_i hg
        cases h
        exact sm_lastore C hg hd k
      · cases h
    · cases h
  · obtain rfl : len = 1 := hlen
    split at h
    · split at h
      · rename_i hg
        cases h
        exact sm_bastoreB C hg hd k
      · split at h
        · rename_i hg
          cases h
          exact sm_bastoreZ C hg.1 hg.2 hd k
        · cases h
    · cases h
  · obtain rfl : len = 1 := hlen
    split at h
    · split at h
      · rename_i hg
        cases h
        exact sm_aastoreS C hg.1 hg.2 hd k
      · split at h
        · rename_i hg
          cases h
          exact sm_aastoreL C hg.1 hg.2 hd k
        · cases h
    · cases h
  · obtain rfl : len = 3 := hlen
    split at h
    · split at h
      · rename_i hg
        cases h
        obtain ⟨rfl, hr, hst⟩ := hg
        rw [okWord, if_pos rfl] at hok
        exact sm_objInit C hr hst hR (WT_in hok rfl) hd k
      · cases h
    · cases h
  · obtain rfl : len = 3 := hlen
    split at h
    · rename_i hx2
      subst hx2
      rw [okWord, if_pos rfl] at hok
      split at h
      · split at h
        · rename_i hs1 hd1
          split at h
          · rename_i hc
            cases h
            exact sm_copy C hs1 hd1 hc hR (WT_in hok rfl) hd k
          · cases h
        · cases h
      · cases h
    · split at h
      · rename_i hx2 hx3
        subst hx3
        rw [okWord, if_neg (by decide), if_pos rfl] at hok
        split at h
        · split at h
          · rename_i hst
            cases h
            exact sm_mmax C hst hR hcs (WT_in hok rfl) hd k
          · cases h
        · cases h
      · split at h
        · rename_i hx2 hx3 hx4
          subst hx4
          rw [okWord, if_neg (by decide), if_neg (by decide), if_pos rfl] at hok
          split at h
          · split at h
            · rename_i hst
              cases h
              exact sm_mmin C hst hR hcs (WT_in hok rfl) hd k
            · cases h
          · cases h
        · split at h
          · rename_i hx2 hx3 hx4 hx5
            subst hx5
            rw [okWord, if_neg (by decide), if_neg (by decide), if_neg (by decide), if_pos rfl] at hok
            split at h
            · split at h
              · rename_i hst
                cases h
                exact sm_mabs C hst hR hcs (WT_in hok rfl) hd k
              · cases h
            · cases h
          · cases h
  · cases h
end SIM
