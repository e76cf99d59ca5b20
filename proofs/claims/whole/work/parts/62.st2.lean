/-! the reference's calls: looking and altering -/
theorem al_un {n : Nat} {x : Int32} {f : Nat → Int32} {K : Int32 → Option am_R} (h : un x < n) (hn : n ≤ 100000) : am_al0 (some (.inl (0, n, .inl f))) x K = K (f (un x)) := by
  have := al_in (f := f) (K := K) h hn
  rw [nI_un] at this
  exact this
theorem as_un {n : Nat} {x : Int32} {f : Nat → Int32} {K : Nat → (Nat → Int32) → Option am_R} (h : un x < n) (hn : n ≤ 100000) : am_is (some (.inl (0, n, .inl f))) x K = K n f := by
  have := as_in (f := f) (K := K) h hn
  rw [nI_un] at this
  exact this
theorem cl_un {x : Int32} (h : un x < 100001) : x.toNatClampNeg = un x := by
  have := cl_nI h
  rw [nI_un] at this
  exact this
section
variable {h0 h : Nat → Option va_E} {z : Nat × Nat × Nat} {m n : Nat} {c : Int32} {S Sv : Sh} {M J : Nat → Int32} {jl : Nat} {nm : List Int32}
theorem may_iff {n : Nat} {aK M : Nat → Int32} {nm : List Int32} (hn : n ≤ 40) (hK : ∀ j, j < 2560 → aK j = M j) (hM : ∀ j, 64 * n ≤ j → M j = 0) : (nzc aK 2560 = 0 ∧ nm.length ≠ 0) ↔ (nzc M (64 * n) = 0 ∧ nm ≠ []) := by
  rw [nzK hn hK hM]
  constructor
  · exact fun g => ⟨g.1, fun e => g.2 (by rw [e]; rfl)⟩
  · exact fun g => ⟨g.1, fun e => g.2 (List.length_eq_zero_iff.mp e)⟩
theorem M_has (d : MR h0 m n (S, Sv, M, J, jl, nm) h c) (i : SI n (S, Sv, M, J, jl, nm)) : OR (cl 109 [.ref m] (h, z)) z h0 m n k1 (opHas n (S, Sv, M, J, jl, nm)) := by
  have hl : nm.length ≤ 12 := i.2.2.2.1
  have hn : n ≤ 40 := i.1.2.2.2.1
  have w : WF n S := i.1
  obtain ⟨aN, aS, aB, aU, aH, aD, aX, aM, aW, aI, aT, aA, aK, aL, aF, aP, rfl, e1, e2, e3, e4, e5⟩ := d
  have e1 : nm = nmof nm.length aF := e1
  have e2 : Rl 0 n S aN aS aB aU aH aD aX aM aW aI aT aA := e2
  have e4 : ∀ j, j < 2560 → aK j = M j := e4
  have hq : (nzc aK 2560 = 0 ∧ nm.length ≠ 0) ↔ (nzc M (64 * n) = 0 ∧ nm ≠ []) := may_iff hn e4 i.2.2.2.2.2
  have my := X_may (h0 := h0) (z := z) (m := m) (n := n) (jl := jl) (c := c) (aN := aN) (aS := aS) (aB := aB) (aU := aU) (aH := aH) (aD := aD) (aX := aX) (aM := aM) (aW := aW) (aI := aI) (aT := aT) (aA := aA) (aK := aK) (aL := aL) (aF := aF) (aP := aP) hl
  obtain ⟨N, T, V, W, hN, r0⟩ := Rl0_el e2
  have hNN := r0.n360 w
  obtain ⟨lk1, lk2⟩ := X_look (h0 := h0) (z := z) (m := m) (jl := jl) (c := 0) (aI := aI) (aA := aA) (aK := aK) (aL := aL) (aF := aF) (aP := aP) w r0 hN hl
  unfold opHas opQ
  dsimp only
  by_cases q : nzc M (64 * n) = 0 ∧ nm ≠ []
  · rw [if_pos q]
    rw [if_pos (hq.mpr q), if_pos (hq.mpr q)] at my
    have fin : MR h0 m n (clr (S, Sv, M, J, jl, nm)) (hp h0 m 0 n jl 0 aN aS aB aU aH aD aX aM aW aI aT aA aK aL aF aP) 0 := ⟨aN, aS, aB, aU, aH, aD, aX, aM, aW, aI, aT, aA, aK, aL, aF, aP, rfl, rfl, e2, e3, e4, e5⟩
    by_cases hm : nm ∈ (S.rec (S.at (hsh nm))).map Prod.fst
    · obtain ⟨j, hj, e⟩ := (r0.mem w).mp hm
      have lk := lk2 j hj (e.trans e1)
      rw [if_pos hm]
      refine or_v ?_ fin
      rw [eX7_has]
      simp only [sX7_has_0, sX7_has_1, sX7_has_4, sX7_has_7, sX7_has_8, sX7_has_8t, sX7_has_9, sX7_has_10, sX7_has_13, sX7_has_14, sX7_has_17, sX7_has_18, sX7_has_21, sX7_has_22, sX7_has_23, sX7_has_24, sX7_has_25, sX7_has_28, sX7_has_29, sX7_has_29t, hp_o, hp_1, hp_2, hp_3, hp_4, hp_5, hp_6, hp_7, hp_8, hp_9, hp_10, hp_11, hp_12, hp_13, hp_14, hp_15, hp_16, wp_o, wp_j, wp_f, wp_1, wp_2, wp_3, wp_4, wp_5, wp_6, wp_7, wp_8, wp_9, wp_10, wp_11, wp_12, wp_13, wp_14, wp_15, wp_16, gf_0, pf_0, gf_1, pf_1, gf_2, pf_2, gf_3, pf_3, gf_4, pf_4, gf_5, pf_5, gf_6, pf_6, gf_7, pf_7, gf_8, pf_8, gf_9, pf_9, gf_10, pf_10, gf_11, pf_11, gf_12, pf_12, gf_13, pf_13, gf_14, pf_14, gf_15, pf_15, gf_16, pf_16, gf_17, pf_17, gf_18, pf_18, gf_19, pf_19, List.set_cons_zero, List.set_cons_succ, al_0, as_0, cl0, m8, m10, m12, m32, m40, m64, m400, m4800, bd_v, bi_v, Option.toList, List.cons_append, List.nil_append, List.length_cons, List.length_nil, Nat.reduceAdd, Nat.reduceLeDiff, ck_in, nI_add, nI_1, if_false, if_true, my, show ¬ ((1 : Int32) = 0) by decide, not_false_eq_true, lk, n3_ne (show j ≤ 100000 by omega)]
    · have lk := lk1 (fun j hj e => hm ((r0.mem w).mpr ⟨j, hj, e.trans e1.symm⟩))
      rw [if_neg hm]
      refine or_v ?_ fin
      rw [eX7_has]
      simp only [sX7_has_0, sX7_has_1, sX7_has_4, sX7_has_7, sX7_has_8, sX7_has_8t, sX7_has_9, sX7_has_10, sX7_has_13, sX7_has_14, sX7_has_17, sX7_has_18, sX7_has_21, sX7_has_22, sX7_has_23, sX7_has_24, sX7_has_25, sX7_has_28, sX7_has_29, sX7_has_29t, hp_o, hp_1, hp_2, hp_3, hp_4, hp_5, hp_6, hp_7, hp_8, hp_9, hp_10, hp_11, hp_12, hp_13, hp_14, hp_15, hp_16, wp_o, wp_j, wp_f, wp_1, wp_2, wp_3, wp_4, wp_5, wp_6, wp_7, wp_8, wp_9, wp_10, wp_11, wp_12, wp_13, wp_14, wp_15, wp_16, gf_0, pf_0, gf_1, pf_1, gf_2, pf_2, gf_3, pf_3, gf_4, pf_4, gf_5, pf_5, gf_6, pf_6, gf_7, pf_7, gf_8, pf_8, gf_9, pf_9, gf_10, pf_10, gf_11, pf_11, gf_12, pf_12, gf_13, pf_13, gf_14, pf_14, gf_15, pf_15, gf_16, pf_16, gf_17, pf_17, gf_18, pf_18, gf_19, pf_19, List.set_cons_zero, List.set_cons_succ, al_0, as_0, cl0, m8, m10, m12, m32, m40, m64, m400, m4800, bd_v, bi_v, Option.toList, List.cons_append, List.nil_append, List.length_cons, List.length_nil, Nat.reduceAdd, Nat.reduceLeDiff, ck_in, nI_add, nI_1, if_false, if_true, my, show ¬ ((1 : Int32) = 0) by decide, not_false_eq_true, lk]
  · rw [if_neg q]
    rw [if_neg (mt hq.mp q), if_neg (mt hq.mp q)] at my
    refine or_x (r := 0) ?_ ⟨aN, aS, aB, aU, aH, aD, aX, aM, aW, aI, aT, aA, aK, aL, aF, aP, rfl, e1, e2, e3, e4, e5⟩
    rw [eX7_has]
    simp only [sX7_has_0, sX7_has_1, sX7_has_4, sX7_has_7, sX7_has_8, sX7_has_8t, sX7_has_9, sX7_has_10, sX7_has_13, sX7_has_14, sX7_has_17, sX7_has_18, sX7_has_21, sX7_has_22, sX7_has_23, sX7_has_24, sX7_has_25, sX7_has_28, sX7_has_29, sX7_has_29t, hp_o, hp_1, hp_2, hp_3, hp_4, hp_5, hp_6, hp_7, hp_8, hp_9, hp_10, hp_11, hp_12, hp_13, hp_14, hp_15, hp_16, wp_o, wp_j, wp_f, wp_1, wp_2, wp_3, wp_4, wp_5, wp_6, wp_7, wp_8, wp_9, wp_10, wp_11, wp_12, wp_13, wp_14, wp_15, wp_16, gf_0, pf_0, gf_1, pf_1, gf_2, pf_2, gf_3, pf_3, gf_4, pf_4, gf_5, pf_5, gf_6, pf_6, gf_7, pf_7, gf_8, pf_8, gf_9, pf_9, gf_10, pf_10, gf_11, pf_11, gf_12, pf_12, gf_13, pf_13, gf_14, pf_14, gf_15, pf_15, gf_16, pf_16, gf_17, pf_17, gf_18, pf_18, gf_19, pf_19, List.set_cons_zero, List.set_cons_succ, al_0, as_0, cl0, m8, m10, m12, m32, m40, m64, m400, m4800, bd_v, bi_v, Option.toList, List.cons_append, List.nil_append, List.length_cons, List.length_nil, Nat.reduceAdd, Nat.reduceLeDiff, ck_in, nI_add, nI_1, if_false, if_true, my, not_true_eq_false]
    rfl
theorem M_find (d : MR h0 m n (S, Sv, M, J, jl, nm) h c) (i : SI n (S, Sv, M, J, jl, nm)) : OR (cl 110 [.ref m] (h, z)) z h0 m n k1 (opFind n (S, Sv, M, J, jl, nm)) := by
  have hl : nm.length ≤ 12 := i.2.2.2.1
  have hn : n ≤ 40 := i.1.2.2.2.1
  have w : WF n S := i.1
  obtain ⟨aN, aS, aB, aU, aH, aD, aX, aM, aW, aI, aT, aA, aK, aL, aF, aP, rfl, e1, e2, e3, e4, e5⟩ := d
  have e1 : nm = nmof nm.length aF := e1
  have e2 : Rl 0 n S aN aS aB aU aH aD aX aM aW aI aT aA := e2
  have e4 : ∀ j, j < 2560 → aK j = M j := e4
  have hq : (nzc aK 2560 = 0 ∧ nm.length ≠ 0) ↔ (nzc M (64 * n) = 0 ∧ nm ≠ []) := may_iff hn e4 i.2.2.2.2.2
  have my := X_may (h0 := h0) (z := z) (m := m) (n := n) (jl := jl) (c := c) (aN := aN) (aS := aS) (aB := aB) (aU := aU) (aH := aH) (aD := aD) (aX := aX) (aM := aM) (aW := aW) (aI := aI) (aT := aT) (aA := aA) (aK := aK) (aL := aL) (aF := aF) (aP := aP) hl
  obtain ⟨N, T, V, W, hN, r0⟩ := Rl0_el e2
  have hNN := r0.n360 w
  obtain ⟨lk1, lk2⟩ := X_look (h0 := h0) (z := z) (m := m) (jl := jl) (c := 0) (aI := aI) (aA := aA) (aK := aK) (aL := aL) (aF := aF) (aP := aP) w r0 hN hl
  unfold opFind opQ
  dsimp only
  by_cases q : nzc M (64 * n) = 0 ∧ nm ≠ []
  · rw [if_pos q]
    rw [if_pos (hq.mpr q), if_pos (hq.mpr q)] at my
    have fin : MR h0 m n (clr (S, Sv, M, J, jl, nm)) (hp h0 m 0 n jl 0 aN aS aB aU aH aD aX aM aW aI aT aA aK aL aF aP) 0 := ⟨aN, aS, aB, aU, aH, aD, aX, aM, aW, aI, aT, aA, aK, aL, aF, aP, rfl, rfl, e2, e3, e4, e5⟩
    by_cases hm : nm ∈ (S.rec (S.at (hsh nm))).map Prod.fst
    · obtain ⟨j, hj, e⟩ := (r0.mem w).mp hm
      have lk := lk2 j hj (e.trans e1)
      have nu := r0.num w hj
      rw [e] at nu
      have i1 : j < 1200 := by omega
      rw [nu]
      refine or_v ?_ fin
      rw [eX7_find]
      simp only [sX7_find_0, sX7_find_1, sX7_find_4, sX7_find_7, sX7_find_8, sX7_find_9, sX7_find_10, sX7_find_13, sX7_find_14, sX7_find_15, sX7_find_16, sX7_find_19, sX7_find_20, sX7_find_21, sX7_find_24, sX7_find_25, sX7_find_28, sX7_find_29, sX7_find_32, sX7_find_33, sX7_find_34, hp_o, hp_1, hp_2, hp_3, hp_4, hp_5, hp_6, hp_7, hp_8, hp_9, hp_10, hp_11, hp_12, hp_13, hp_14, hp_15, hp_16, wp_o, wp_j, wp_f, wp_1, wp_2, wp_3, wp_4, wp_5, wp_6, wp_7, wp_8, wp_9, wp_10, wp_11, wp_12, wp_13, wp_14, wp_15, wp_16, gf_0, pf_0, gf_1, pf_1, gf_2, pf_2, gf_3, pf_3, gf_4, pf_4, gf_5, pf_5, gf_6, pf_6, gf_7, pf_7, gf_8, pf_8, gf_9, pf_9, gf_10, pf_10, gf_11, pf_11, gf_12, pf_12, gf_13, pf_13, gf_14, pf_14, gf_15, pf_15, gf_16, pf_16, gf_17, pf_17, gf_18, pf_18, gf_19, pf_19, List.set_cons_zero, List.set_cons_succ, al_0, as_0, cl0, m8, m10, m12, m32, m40, m64, m400, m4800, bd_v, bi_v, Option.toList, List.cons_append, List.nil_append, List.length_cons, List.length_nil, Nat.reduceAdd, Nat.reduceLeDiff, ck_in, nI_add, nI_1, if_false, if_true, my, show ¬ ((1 : Int32) = 0) by decide, not_false_eq_true, lk, n3_ne (show j ≤ 100000 by omega), al_in i1 (show 1200 ≤ 100000 by omega), (r0.2.1 j hj).2.2.1]
    · have lk := lk1 (fun j hj e => hm ((r0.mem w).mpr ⟨j, hj, e.trans e1.symm⟩))
      rw [numOf_no hm]
      refine or_v ?_ fin
      rw [eX7_find]
      simp only [sX7_find_0, sX7_find_1, sX7_find_4, sX7_find_7, sX7_find_8, sX7_find_9, sX7_find_10, sX7_find_13, sX7_find_14, sX7_find_15, sX7_find_16, sX7_find_19, sX7_find_20, sX7_find_21, sX7_find_24, sX7_find_25, sX7_find_28, sX7_find_29, sX7_find_32, sX7_find_33, sX7_find_34, hp_o, hp_1, hp_2, hp_3, hp_4, hp_5, hp_6, hp_7, hp_8, hp_9, hp_10, hp_11, hp_12, hp_13, hp_14, hp_15, hp_16, wp_o, wp_j, wp_f, wp_1, wp_2, wp_3, wp_4, wp_5, wp_6, wp_7, wp_8, wp_9, wp_10, wp_11, wp_12, wp_13, wp_14, wp_15, wp_16, gf_0, pf_0, gf_1, pf_1, gf_2, pf_2, gf_3, pf_3, gf_4, pf_4, gf_5, pf_5, gf_6, pf_6, gf_7, pf_7, gf_8, pf_8, gf_9, pf_9, gf_10, pf_10, gf_11, pf_11, gf_12, pf_12, gf_13, pf_13, gf_14, pf_14, gf_15, pf_15, gf_16, pf_16, gf_17, pf_17, gf_18, pf_18, gf_19, pf_19, List.set_cons_zero, List.set_cons_succ, al_0, as_0, cl0, m8, m10, m12, m32, m40, m64, m400, m4800, bd_v, bi_v, Option.toList, List.cons_append, List.nil_append, List.length_cons, List.length_nil, Nat.reduceAdd, Nat.reduceLeDiff, ck_in, nI_add, nI_1, if_false, if_true, my, show ¬ ((1 : Int32) = 0) by decide, not_false_eq_true, lk, not_true_eq_false]
  · rw [if_neg q]
    rw [if_neg (mt hq.mp q), if_neg (mt hq.mp q)] at my
    refine or_x (r := 0) ?_ ⟨aN, aS, aB, aU, aH, aD, aX, aM, aW, aI, aT, aA, aK, aL, aF, aP, rfl, e1, e2, e3, e4, e5⟩
    rw [eX7_find]
    simp only [sX7_find_0, sX7_find_1, sX7_find_4, sX7_find_7, sX7_find_8, sX7_find_9, sX7_find_10, sX7_find_13, sX7_find_14, sX7_find_15, sX7_find_16, sX7_find_19, sX7_find_20, sX7_find_21, sX7_find_24, sX7_find_25, sX7_find_28, sX7_find_29, sX7_find_32, sX7_find_33, sX7_find_34, hp_o, hp_1, hp_2, hp_3, hp_4, hp_5, hp_6, hp_7, hp_8, hp_9, hp_10, hp_11, hp_12, hp_13, hp_14, hp_15, hp_16, wp_o, wp_j, wp_f, wp_1, wp_2, wp_3, wp_4, wp_5, wp_6, wp_7, wp_8, wp_9, wp_10, wp_11, wp_12, wp_13, wp_14, wp_15, wp_16, gf_0, pf_0, gf_1, pf_1, gf_2, pf_2, gf_3, pf_3, gf_4, pf_4, gf_5, pf_5, gf_6, pf_6, gf_7, pf_7, gf_8, pf_8, gf_9, pf_9, gf_10, pf_10, gf_11, pf_11, gf_12, pf_12, gf_13, pf_13, gf_14, pf_14, gf_15, pf_15, gf_16, pf_16, gf_17, pf_17, gf_18, pf_18, gf_19, pf_19, List.set_cons_zero, List.set_cons_succ, al_0, as_0, cl0, m8, m10, m12, m32, m40, m64, m400, m4800, bd_v, bi_v, Option.toList, List.cons_append, List.nil_append, List.length_cons, List.length_nil, Nat.reduceAdd, Nat.reduceLeDiff, ck_in, nI_add, nI_1, if_false, if_true, my, not_true_eq_false]
    rfl
theorem M_save (d : MR h0 m n (S, Sv, M, J, jl, nm) h c) (i : SI n (S, Sv, M, J, jl, nm)) : OR (cl 111 [.ref m] (h, z)) z h0 m n k1 (opSave n (S, Sv, M, J, jl, nm)) := by
  have hn : n ≤ 40 := i.1.2.2.2.1
  have w : WF n S := i.1
  obtain ⟨aN, aS, aB, aU, aH, aD, aX, aM, aW, aI, aT, aA, aK, aL, aF, aP, rfl, e1, e2, e3, e4, e5⟩ := d
  have e1 : nm = nmof nm.length aF := e1
  have e2 : Rl 0 n S aN aS aB aU aH aD aX aM aW aI aT aA := e2
  have e4 : ∀ j, j < 2560 → aK j = M j := e4
  have hq : nzc aK 2560 = 0 ↔ nzc M (64 * n) = 0 := nzK hn e4 i.2.2.2.2.2
  obtain ⟨N, T, V, W, hN, r0⟩ := Rl0_el e2
  unfold opSave
  dsimp only
  by_cases q : nzc M (64 * n) = 0
  · rw [if_pos q]
    have cp := X_copy10 (h0 := h0) (z := z) (m := m) (n := n) (jl := jl) (fd := nm.length) (c := 0) (aN := aN) (aS := aS) (aB := aB) (aU := aU) (aH := aH) (aD := aD) (aX := aX) (aM := aM) (aW := aW) (aI := aI) (aT := aT) (aA := aA) (aK := aK) (aL := aL) (aF := aF) (aP := aP)
    refine or_v (h' := hp h0 m 0 n 0 nm.length (upd aN 1 (aN 0)) (cpy aS aS (400 * 0) (400 * 1) 400) (cpy aB aB (4800 * 0) (4800 * 1) 4800) (cpy aU aU (400 * 0) (400 * 1) 400) (cpy aH aH (400 * 0) (400 * 1) 400) (cpy aD aD (40 * 0) (40 * 1) 40) (cpy (narX aX) aX (40 * 0) (40 * 1) 40) (cpy aM aM (40 * 0) (40 * 1) 40) (cpy aW aW (400 * 0) (400 * 1) 400) (upd aI 1 (aI 0)) (cpy aT aT (32 * 0) (32 * 1) 32) (upd aA 1 (aA 0)) aK aL aF aP) ?_ ⟨_, _, _, _, _, _, _, _, _, _, _, _, aK, aL, aF, aP, rfl, e1, Rl.copy_ot (by omega) (by omega) (by omega) w e2, Rl.copy_to (by omega) (by omega) (by omega) w e2, e4, e5⟩
    have e6 : upd aA 1 (aA 0) 0 = nI S.acts := by rw [upd_n (by omega)]; exact r0.1.2
    rw [eX7_save]
    simp only [sX7_save_0, sX7_save_1, sX7_save_2, sX7_save_5, sX7_save_8, sX7_save_9, sX7_save_12, sX7_save_13, sX7_save_16, sX7_save_17, sX7_save_20, sX7_save_23, sX7_save_24, sX7_save_25, sX7_save_26, sX7_save_27, sX7_save_28, sX7_save_31, sX7_save_32, sX7_save_33, sX7_save_36, sX7_save_37, sX7_save_40, sX7_save_41, sX7_save_42, hp_o, hp_1, hp_2, hp_3, hp_4, hp_5, hp_6, hp_7, hp_8, hp_9, hp_10, hp_11, hp_12, hp_13, hp_14, hp_15, hp_16, wp_o, wp_j, wp_f, wp_1, wp_2, wp_3, wp_4, wp_5, wp_6, wp_7, wp_8, wp_9, wp_10, wp_11, wp_12, wp_13, wp_14, wp_15, wp_16, gf_0, pf_0, gf_1, pf_1, gf_2, pf_2, gf_3, pf_3, gf_4, pf_4, gf_5, pf_5, gf_6, pf_6, gf_7, pf_7, gf_8, pf_8, gf_9, pf_9, gf_10, pf_10, gf_11, pf_11, gf_12, pf_12, gf_13, pf_13, gf_14, pf_14, gf_15, pf_15, gf_16, pf_16, gf_17, pf_17, gf_18, pf_18, gf_19, pf_19, List.set_cons_zero, List.set_cons_succ, al_0, as_0, cl0, m8, m10, m12, m32, m40, m64, m400, m4800, bd_v, bi_v, Option.toList, List.cons_append, List.nil_append, List.length_cons, List.length_nil, Nat.reduceAdd, Nat.reduceLeDiff, ck_in, nI_add, nI_1, if_false, if_true, X_isAltered, hq.mpr q, show (0 : Int32) ≤ 0 by decide]
    rw [cp]
    simp only [sX7_save_0, sX7_save_1, sX7_save_2, sX7_save_5, sX7_save_8, sX7_save_9, sX7_save_12, sX7_save_13, sX7_save_16, sX7_save_17, sX7_save_20, sX7_save_23, sX7_save_24, sX7_save_25, sX7_save_26, sX7_save_27, sX7_save_28, sX7_save_31, sX7_save_32, sX7_save_33, sX7_save_36, sX7_save_37, sX7_save_40, sX7_save_41, sX7_save_42, hp_o, hp_1, hp_2, hp_3, hp_4, hp_5, hp_6, hp_7, hp_8, hp_9, hp_10, hp_11, hp_12, hp_13, hp_14, hp_15, hp_16, wp_o, wp_j, wp_f, wp_1, wp_2, wp_3, wp_4, wp_5, wp_6, wp_7, wp_8, wp_9, wp_10, wp_11, wp_12, wp_13, wp_14, wp_15, wp_16, gf_0, pf_0, gf_1, pf_1, gf_2, pf_2, gf_3, pf_3, gf_4, pf_4, gf_5, pf_5, gf_6, pf_6, gf_7, pf_7, gf_8, pf_8, gf_9, pf_9, gf_10, pf_10, gf_11, pf_11, gf_12, pf_12, gf_13, pf_13, gf_14, pf_14, gf_15, pf_15, gf_16, pf_16, gf_17, pf_17, gf_18, pf_18, gf_19, pf_19, List.set_cons_zero, List.set_cons_succ, al_0, as_0, cl0, m8, m10, m12, m32, m40, m64, m400, m4800, bd_v, bi_v, Option.toList, List.cons_append, List.nil_append, List.length_cons, List.length_nil, Nat.reduceAdd, Nat.reduceLeDiff, ck_in, nI_add, nI_1, if_false, if_true, e6]
  · rw [if_neg q]
    refine or_x (r := 0) ?_ ⟨aN, aS, aB, aU, aH, aD, aX, aM, aW, aI, aT, aA, aK, aL, aF, aP, rfl, e1, e2, e3, e4, e5⟩
    rw [eX7_save]
    simp only [sX7_save_0, sX7_save_1, sX7_save_2, sX7_save_5, sX7_save_8, sX7_save_9, sX7_save_12, sX7_save_13, sX7_save_16, sX7_save_17, sX7_save_20, sX7_save_23, sX7_save_24, sX7_save_25, sX7_save_26, sX7_save_27, sX7_save_28, sX7_save_31, sX7_save_32, sX7_save_33, sX7_save_36, sX7_save_37, sX7_save_40, sX7_save_41, sX7_save_42, hp_o, hp_1, hp_2, hp_3, hp_4, hp_5, hp_6, hp_7, hp_8, hp_9, hp_10, hp_11, hp_12, hp_13, hp_14, hp_15, hp_16, wp_o, wp_j, wp_f, wp_1, wp_2, wp_3, wp_4, wp_5, wp_6, wp_7, wp_8, wp_9, wp_10, wp_11, wp_12, wp_13, wp_14, wp_15, wp_16, gf_0, pf_0, gf_1, pf_1, gf_2, pf_2, gf_3, pf_3, gf_4, pf_4, gf_5, pf_5, gf_6, pf_6, gf_7, pf_7, gf_8, pf_8, gf_9, pf_9, gf_10, pf_10, gf_11, pf_11, gf_12, pf_12, gf_13, pf_13, gf_14, pf_14, gf_15, pf_15, gf_16, pf_16, gf_17, pf_17, gf_18, pf_18, gf_19, pf_19, List.set_cons_zero, List.set_cons_succ, al_0, as_0, cl0, m8, m10, m12, m32, m40, m64, m400, m4800, bd_v, bi_v, Option.toList, List.cons_append, List.nil_append, List.length_cons, List.length_nil, Nat.reduceAdd, Nat.reduceLeDiff, ck_in, nI_add, nI_1, if_false, if_true, X_isAltered, mt hq.mp q, show ¬ (1 : Int32) = 0 by decide, show ¬ (1 : Int32) ≤ 0 by decide]
    rfl
theorem in_n {p : Int32} (hn : n ≤ 40) (h1 : 1 ≤ n) : ((0 : Int32) ≤ p ∧ p ≤ nI n - 1) ↔ un p < n := by
  have e : nI n - 1 = nI (n - 1) := pk_sub (b := 1) (by omega)
  have e0 : ((0 : Int32) ≤ p) ↔ (0 ≤ un p ∧ un p < 2 ^ 31) := le_un (k := 0) (by omega)
  rw [e, e0, ge_un (by omega)]
  omega
theorem in_63 {p : Int32} : ((0 : Int32) ≤ p ∧ p ≤ 63) ↔ un p < 64 := by
  have e0 : ((0 : Int32) ≤ p) ↔ (0 ≤ un p ∧ un p < 2 ^ 31) := le_un (k := 0) (by omega)
  have e1 : (p ≤ 63) ↔ (un p ≤ 63 ∨ 2 ^ 31 ≤ un p) := ge_un (k := 63) (by omega)
  rw [e0, e1]
  omega
theorem in_599 {p : Int32} : ((0 : Int32) ≤ p ∧ p ≤ 599) ↔ un p < 600 := by
  have e0 : ((0 : Int32) ≤ p) ↔ (0 ≤ un p ∧ un p < 2 ^ 31) := le_un (k := 0) (by omega)
  have e1 : (p ≤ 599) ↔ (un p ≤ 599 ∨ 2 ^ 31 ≤ un p) := ge_un (k := 599) (by omega)
  rw [e0, e1]
  omega
theorem in_m {p : Int32} : ((1 : Int32) ≤ p ∧ p ≤ 255) ↔ (1 ≤ un p ∧ un p < 256) := by
  have e0 : ((1 : Int32) ≤ p) ↔ (1 ≤ un p ∧ un p < 2 ^ 31) := le_un (k := 1) (by omega)
  have e1 : (p ≤ 255) ↔ (un p ≤ 255 ∨ 2 ^ 31 ≤ un p) := ge_un (k := 255) (by omega)
  rw [e0, e1]
  omega
theorem M_poke (d : MR h0 m n (S, Sv, M, J, jl, nm) h c) (i : SI n (S, Sv, M, J, jl, nm)) (p k x : Int32) : ORv (cl 114 [.ref m, .int p, .int k, .int x] (h, z)) z h0 m n k2 (opPoke n p k x (S, Sv, M, J, jl, nm)) := by
  have hn : n ≤ 40 := i.1.2.2.2.1
  have h1 : 1 ≤ n := by have h2 : 1 ≤ S.used := i.1.2.2.1; have h3 : S.used ≤ n := i.1.2.1; omega
  obtain ⟨aN, aS, aB, aU, aH, aD, aX, aM, aW, aI, aT, aA, aK, aL, aF, aP, rfl, e1, e2, e3, e4, e5⟩ := d
  have q1 := in_n (p := p) hn h1
  have q2 := in_63 (p := k)
  have q3 := in_m (p := x)
  unfold opPoke
  dsimp only
  rw [eX7_poke]
  by_cases a1 : un p < n
  · by_cases a2 : un k < 64
    · by_cases a3 : 1 ≤ un x ∧ un x < 256
      · rw [if_pos ⟨a1, a2⟩, if_pos a3]
        have ix : (64 : Int32) * p + k = nI (64 * un p + un k) := by rw [← nI_un p, ← nI_un k, m64, nI_add, nI_un, nI_un]
        have i1 : 64 * un p + un k < 2560 := by omega
        have e4' : ∀ j, j < 2560 → aK j = M j := e4
        refine ⟨hp h0 m 0 n jl nm.length aN aS aB aU aH aD aX aM aW aI aT aA (upd aK (64 * un p + un k) (aK (64 * un p + un k) ^^^ x)) aL aF aP, 0, ?_, ⟨_, _, _, _, _, _, _, _, _, _, _, _, _, _, _, _, rfl, e1, e2, e3, fun j hj => ?_, e5⟩, fun _ _ => rfl, fun E hE => (by cases hE)⟩
        · simp only [sX7_poke_0, sX7_poke_1, sX7_poke_2, sX7_poke_3, sX7_poke_4, sX7_poke_7, sX7_poke_8, sX7_poke_9, sX7_poke_12, sX7_poke_15, sX7_poke_16, sX7_poke_17, sX7_poke_19, sX7_poke_22, sX7_poke_25, sX7_poke_26, sX7_poke_29, sX7_poke_30, sX7_poke_31, sX7_poke_34, sX7_poke_37, sX7_poke_40, sX7_poke_41, sX7_poke_44, sX7_poke_45, sX7_poke_48, sX7_poke_49, sX7_poke_52, sX7_poke_55, sX7_poke_56, sX7_poke_59, sX7_poke_61, sX7_poke_62, sX7_poke_63, sX7_poke_64, sX7_poke_65, sX7_poke_66, sX7_poke_67, sX7_poke_68, sX7_poke_69, sX7_poke_70, hp_o, hp_1, hp_2, hp_3, hp_4, hp_5, hp_6, hp_7, hp_8, hp_9, hp_10, hp_11, hp_12, hp_13, hp_14, hp_15, hp_16, wp_o, wp_j, wp_f, wp_1, wp_2, wp_3, wp_4, wp_5, wp_6, wp_7, wp_8, wp_9, wp_10, wp_11, wp_12, wp_13, wp_14, wp_15, wp_16, gf_0, pf_0, gf_1, pf_1, gf_2, pf_2, gf_3, pf_3, gf_4, pf_4, gf_5, pf_5, gf_6, pf_6, gf_7, pf_7, gf_8, pf_8, gf_9, pf_9, gf_10, pf_10, gf_11, pf_11, gf_12, pf_12, gf_13, pf_13, gf_14, pf_14, gf_15, pf_15, gf_16, pf_16, gf_17, pf_17, gf_18, pf_18, gf_19, pf_19, List.set_cons_zero, List.set_cons_succ, al_0, as_0, cl0, m8, m10, m12, m32, m40, m64, m400, m4800, bd_v, Option.toList, List.cons_append, List.nil_append, List.length_cons, List.length_nil, Nat.reduceAdd, Nat.reduceLeDiff, ck_in, if_true, if_false, X_in, eq_true (q1.mpr a1), eq_true (q2.mpr a2), eq_true (q3.mpr a3), show ¬ ((1 : Int32) = 0) by decide, not_false_eq_true, not_true_eq_false, ix, al_in i1 (show 2560 ≤ 100000 by omega), as_in i1 (show 2560 ≤ 100000 by omega), cl_nI (show 64 * un p + un k < 100001 by omega)]
        · show upd aK _ _ j = upd M _ _ j
          by_cases e : j = 64 * un p + un k
          · rw [e, upd_s, upd_s, e4' _ i1]
          · rw [upd_n e, upd_n e]; exact e4' j hj
      · rw [if_pos ⟨a1, a2⟩, if_neg a3]
        refine ⟨_, 2, ?_, ⟨aN, aS, aB, aU, aH, aD, aX, aM, aW, aI, aT, aA, aK, aL, aF, aP, rfl, e1, e2, e3, e4, e5⟩, fun v hv => (by cases hv), fun E hE => (by cases hE; rfl)⟩
        simp only [sX7_poke_0, sX7_poke_1, sX7_poke_2, sX7_poke_3, sX7_poke_4, sX7_poke_7, sX7_poke_8, sX7_poke_9, sX7_poke_12, sX7_poke_15, sX7_poke_16, sX7_poke_17, sX7_poke_19, sX7_poke_22, sX7_poke_25, sX7_poke_26, sX7_poke_29, sX7_poke_30, sX7_poke_31, sX7_poke_34, sX7_poke_37, sX7_poke_40, sX7_poke_41, sX7_poke_44, sX7_poke_45, sX7_poke_48, sX7_poke_49, sX7_poke_52, sX7_poke_55, sX7_poke_56, sX7_poke_59, sX7_poke_61, sX7_poke_62, sX7_poke_63, sX7_poke_64, sX7_poke_65, sX7_poke_66, sX7_poke_67, sX7_poke_68, sX7_poke_69, sX7_poke_70, hp_o, hp_1, hp_2, hp_3, hp_4, hp_5, hp_6, hp_7, hp_8, hp_9, hp_10, hp_11, hp_12, hp_13, hp_14, hp_15, hp_16, wp_o, wp_j, wp_f, wp_1, wp_2, wp_3, wp_4, wp_5, wp_6, wp_7, wp_8, wp_9, wp_10, wp_11, wp_12, wp_13, wp_14, wp_15, wp_16, gf_0, pf_0, gf_1, pf_1, gf_2, pf_2, gf_3, pf_3, gf_4, pf_4, gf_5, pf_5, gf_6, pf_6, gf_7, pf_7, gf_8, pf_8, gf_9, pf_9, gf_10, pf_10, gf_11, pf_11, gf_12, pf_12, gf_13, pf_13, gf_14, pf_14, gf_15, pf_15, gf_16, pf_16, gf_17, pf_17, gf_18, pf_18, gf_19, pf_19, List.set_cons_zero, List.set_cons_succ, al_0, as_0, cl0, m8, m10, m12, m32, m40, m64, m400, m4800, bd_v, bi_v, Option.toList, List.cons_append, List.nil_append, List.length_cons, List.length_nil, Nat.reduceAdd, Nat.reduceLeDiff, ck_in, nI_add, nI_1, if_false, if_true, X_in, eq_true (q1.mpr a1), eq_true (q2.mpr a2), eq_false (mt q3.mp a3), show ¬ ((1 : Int32) = 0) by decide, show ¬ ((2 : Int32) = 0) by decide, not_false_eq_true, not_true_eq_false]
    · rw [if_neg (fun y => a2 y.2)]
      refine ⟨_, 1, ?_, ⟨aN, aS, aB, aU, aH, aD, aX, aM, aW, aI, aT, aA, aK, aL, aF, aP, rfl, e1, e2, e3, e4, e5⟩, fun v hv => (by cases hv), fun E hE => (by cases hE; rfl)⟩
      simp only [sX7_poke_0, sX7_poke_1, sX7_poke_2, sX7_poke_3, sX7_poke_4, sX7_poke_7, sX7_poke_8, sX7_poke_9, sX7_poke_12, sX7_poke_15, sX7_poke_16, sX7_poke_17, sX7_poke_19, sX7_poke_22, sX7_poke_25, sX7_poke_26, sX7_poke_29, sX7_poke_30, sX7_poke_31, sX7_poke_34, sX7_poke_37, sX7_poke_40, sX7_poke_41, sX7_poke_44, sX7_poke_45, sX7_poke_48, sX7_poke_49, sX7_poke_52, sX7_poke_55, sX7_poke_56, sX7_poke_59, sX7_poke_61, sX7_poke_62, sX7_poke_63, sX7_poke_64, sX7_poke_65, sX7_poke_66, sX7_poke_67, sX7_poke_68, sX7_poke_69, sX7_poke_70, hp_o, hp_1, hp_2, hp_3, hp_4, hp_5, hp_6, hp_7, hp_8, hp_9, hp_10, hp_11, hp_12, hp_13, hp_14, hp_15, hp_16, wp_o, wp_j, wp_f, wp_1, wp_2, wp_3, wp_4, wp_5, wp_6, wp_7, wp_8, wp_9, wp_10, wp_11, wp_12, wp_13, wp_14, wp_15, wp_16, gf_0, pf_0, gf_1, pf_1, gf_2, pf_2, gf_3, pf_3, gf_4, pf_4, gf_5, pf_5, gf_6, pf_6, gf_7, pf_7, gf_8, pf_8, gf_9, pf_9, gf_10, pf_10, gf_11, pf_11, gf_12, pf_12, gf_13, pf_13, gf_14, pf_14, gf_15, pf_15, gf_16, pf_16, gf_17, pf_17, gf_18, pf_18, gf_19, pf_19, List.set_cons_zero, List.set_cons_succ, al_0, as_0, cl0, m8, m10, m12, m32, m40, m64, m400, m4800, bd_v, bi_v, Option.toList, List.cons_append, List.nil_append, List.length_cons, List.length_nil, Nat.reduceAdd, Nat.reduceLeDiff, ck_in, nI_add, nI_1, if_false, if_true, X_in, eq_true (q1.mpr a1), eq_false (mt q2.mp a2), show ¬ ((1 : Int32) = 0) by decide, not_false_eq_true, not_true_eq_false]
  · rw [if_neg (fun y => a1 y.1)]
    refine ⟨_, 1, ?_, ⟨aN, aS, aB, aU, aH, aD, aX, aM, aW, aI, aT, aA, aK, aL, aF, aP, rfl, e1, e2, e3, e4, e5⟩, fun v hv => (by cases hv), fun E hE => (by cases hE; rfl)⟩
    simp only [sX7_poke_0, sX7_poke_1, sX7_poke_2, sX7_poke_3, sX7_poke_4, sX7_poke_7, sX7_poke_8, sX7_poke_9, sX7_poke_12, sX7_poke_15, sX7_poke_16, sX7_poke_17, sX7_poke_19, sX7_poke_22, sX7_poke_25, sX7_poke_26, sX7_poke_29, sX7_poke_30, sX7_poke_31, sX7_poke_34, sX7_poke_37, sX7_poke_40, sX7_poke_41, sX7_poke_44, sX7_poke_45, sX7_poke_48, sX7_poke_49, sX7_poke_52, sX7_poke_55, sX7_poke_56, sX7_poke_59, sX7_poke_61, sX7_poke_62, sX7_poke_63, sX7_poke_64, sX7_poke_65, sX7_poke_66, sX7_poke_67, sX7_poke_68, sX7_poke_69, sX7_poke_70, hp_o, hp_1, hp_2, hp_3, hp_4, hp_5, hp_6, hp_7, hp_8, hp_9, hp_10, hp_11, hp_12, hp_13, hp_14, hp_15, hp_16, wp_o, wp_j, wp_f, wp_1, wp_2, wp_3, wp_4, wp_5, wp_6, wp_7, wp_8, wp_9, wp_10, wp_11, wp_12, wp_13, wp_14, wp_15, wp_16, gf_0, pf_0, gf_1, pf_1, gf_2, pf_2, gf_3, pf_3, gf_4, pf_4, gf_5, pf_5, gf_6, pf_6, gf_7, pf_7, gf_8, pf_8, gf_9, pf_9, gf_10, pf_10, gf_11, pf_11, gf_12, pf_12, gf_13, pf_13, gf_14, pf_14, gf_15, pf_15, gf_16, pf_16, gf_17, pf_17, gf_18, pf_18, gf_19, pf_19, List.set_cons_zero, List.set_cons_succ, al_0, as_0, cl0, m8, m10, m12, m32, m40, m64, m400, m4800, bd_v, bi_v, Option.toList, List.cons_append, List.nil_append, List.length_cons, List.length_nil, Nat.reduceAdd, Nat.reduceLeDiff, ck_in, nI_add, nI_1, if_false, if_true, X_in, eq_false (mt q1.mp a1), show ¬ ((1 : Int32) = 0) by decide, not_false_eq_true, not_true_eq_false]
theorem M_pokeJ (d : MR h0 m n (S, Sv, M, J, jl, nm) h c) (k x : Int32) : ORv (cl 115 [.ref m, .int k, .int x] (h, z)) z h0 m n k2 (opPokeJ k x (S, Sv, M, J, jl, nm)) := by
  obtain ⟨aN, aS, aB, aU, aH, aD, aX, aM, aW, aI, aT, aA, aK, aL, aF, aP, rfl, e1, e2, e3, e4, e5⟩ := d
  have q2 := in_599 (p := k)
  have q3 := in_m (p := x)
  unfold opPokeJ
  dsimp only
  rw [eX7_pokeJournal]
  by_cases a2 : un k < 600
  · by_cases a3 : 1 ≤ un x ∧ un x < 256
    · rw [if_pos a2, if_pos a3]
      have e5' : ∀ j, j < 600 → aL j = J j := e5
      refine ⟨hp h0 m 0 n jl nm.length aN aS aB aU aH aD aX aM aW aI aT aA aK (upd aL (un k) (aL (un k) ^^^ x)) aF aP, 0, ?_, ⟨_, _, _, _, _, _, _, _, _, _, _, _, _, _, _, _, rfl, e1, e2, e3, e4, fun j hj => ?_⟩, fun _ _ => rfl, fun E hE => (by cases hE)⟩
      · have l6 : 600 ≤ 100000 := by omega
        simp only [sX7_pokeJournal_0, sX7_pokeJournal_1, sX7_pokeJournal_2, sX7_pokeJournal_3, sX7_pokeJournal_6, sX7_pokeJournal_9, sX7_pokeJournal_12, sX7_pokeJournal_13, sX7_pokeJournal_16, sX7_pokeJournal_17, sX7_pokeJournal_18, sX7_pokeJournal_21, sX7_pokeJournal_24, sX7_pokeJournal_27, sX7_pokeJournal_28, sX7_pokeJournal_31, sX7_pokeJournal_32, sX7_pokeJournal_35, sX7_pokeJournal_36, sX7_pokeJournal_39, sX7_pokeJournal_42, sX7_pokeJournal_43, sX7_pokeJournal_46, sX7_pokeJournal_47, sX7_pokeJournal_48, sX7_pokeJournal_49, sX7_pokeJournal_50, sX7_pokeJournal_51, sX7_pokeJournal_52, hp_o, hp_1, hp_2, hp_3, hp_4, hp_5, hp_6, hp_7, hp_8, hp_9, hp_10, hp_11, hp_12, hp_13, hp_14, hp_15, hp_16, wp_o, wp_j, wp_f, wp_1, wp_2, wp_3, wp_4, wp_5, wp_6, wp_7, wp_8, wp_9, wp_10, wp_11, wp_12, wp_13, wp_14, wp_15, wp_16, gf_0, pf_0, gf_1, pf_1, gf_2, pf_2, gf_3, pf_3, gf_4, pf_4, gf_5, pf_5, gf_6, pf_6, gf_7, pf_7, gf_8, pf_8, gf_9, pf_9, gf_10, pf_10, gf_11, pf_11, gf_12, pf_12, gf_13, pf_13, gf_14, pf_14, gf_15, pf_15, gf_16, pf_16, gf_17, pf_17, gf_18, pf_18, gf_19, pf_19, List.set_cons_zero, List.set_cons_succ, al_0, as_0, cl0, m8, m10, m12, m32, m40, m64, m400, m4800, bd_v, Option.toList, List.cons_append, List.nil_append, List.length_cons, List.length_nil, Nat.reduceAdd, Nat.reduceLeDiff, ck_in, if_true, if_false, X_in, eq_true (q2.mpr a2), eq_true (q3.mpr a3), show ¬ ((1 : Int32) = 0) by decide, not_false_eq_true, not_true_eq_false, al_un a2 l6, as_un a2 l6, cl_un (show un k < 100001 by omega)]
      · show upd aL _ _ j = upd J _ _ j
        by_cases e : j = un k
        · rw [e, upd_s, upd_s, e5' _ a2]
        · rw [upd_n e, upd_n e]; exact e5' j hj
    · rw [if_pos a2, if_neg a3]
      refine ⟨_, 2, ?_, ⟨aN, aS, aB, aU, aH, aD, aX, aM, aW, aI, aT, aA, aK, aL, aF, aP, rfl, e1, e2, e3, e4, e5⟩, fun v hv => (by cases hv), fun E hE => (by cases hE; rfl)⟩
      simp only [sX7_pokeJournal_0, sX7_pokeJournal_1, sX7_pokeJournal_2, sX7_pokeJournal_3, sX7_pokeJournal_6, sX7_pokeJournal_9, sX7_pokeJournal_12, sX7_pokeJournal_13, sX7_pokeJournal_16, sX7_pokeJournal_17, sX7_pokeJournal_18, sX7_pokeJournal_21, sX7_pokeJournal_24, sX7_pokeJournal_27, sX7_pokeJournal_28, sX7_pokeJournal_31, sX7_pokeJournal_32, sX7_pokeJournal_35, sX7_pokeJournal_36, sX7_pokeJournal_39, sX7_pokeJournal_42, sX7_pokeJournal_43, sX7_pokeJournal_46, sX7_pokeJournal_47, sX7_pokeJournal_48, sX7_pokeJournal_49, sX7_pokeJournal_50, sX7_pokeJournal_51, sX7_pokeJournal_52, hp_o, hp_1, hp_2, hp_3, hp_4, hp_5, hp_6, hp_7, hp_8, hp_9, hp_10, hp_11, hp_12, hp_13, hp_14, hp_15, hp_16, wp_o, wp_j, wp_f, wp_1, wp_2, wp_3, wp_4, wp_5, wp_6, wp_7, wp_8, wp_9, wp_10, wp_11, wp_12, wp_13, wp_14, wp_15, wp_16, gf_0, pf_0, gf_1, pf_1, gf_2, pf_2, gf_3, pf_3, gf_4, pf_4, gf_5, pf_5, gf_6, pf_6, gf_7, pf_7, gf_8, pf_8, gf_9, pf_9, gf_10, pf_10, gf_11, pf_11, gf_12, pf_12, gf_13, pf_13, gf_14, pf_14, gf_15, pf_15, gf_16, pf_16, gf_17, pf_17, gf_18, pf_18, gf_19, pf_19, List.set_cons_zero, List.set_cons_succ, al_0, as_0, cl0, m8, m10, m12, m32, m40, m64, m400, m4800, bd_v, bi_v, Option.toList, List.cons_append, List.nil_append, List.length_cons, List.length_nil, Nat.reduceAdd, Nat.reduceLeDiff, ck_in, nI_add, nI_1, if_false, if_true, X_in, eq_true (q2.mpr a2), eq_false (mt q3.mp a3), show ¬ ((1 : Int32) = 0) by decide, show ¬ ((2 : Int32) = 0) by decide, not_false_eq_true, not_true_eq_false]
  · rw [if_neg a2]
    refine ⟨_, 1, ?_, ⟨aN, aS, aB, aU, aH, aD, aX, aM, aW, aI, aT, aA, aK, aL, aF, aP, rfl, e1, e2, e3, e4, e5⟩, fun v hv => (by cases hv), fun E hE => (by cases hE; rfl)⟩
    simp only [sX7_pokeJournal_0, sX7_pokeJournal_1, sX7_pokeJournal_2, sX7_pokeJournal_3, sX7_pokeJournal_6, sX7_pokeJournal_9, sX7_pokeJournal_12, sX7_pokeJournal_13, sX7_pokeJournal_16, sX7_pokeJournal_17, sX7_pokeJournal_18, sX7_pokeJournal_21, sX7_pokeJournal_24, sX7_pokeJournal_27, sX7_pokeJournal_28, sX7_pokeJournal_31, sX7_pokeJournal_32, sX7_pokeJournal_35, sX7_pokeJournal_36, sX7_pokeJournal_39, sX7_pokeJournal_42, sX7_pokeJournal_43, sX7_pokeJournal_46, sX7_pokeJournal_47, sX7_pokeJournal_48, sX7_pokeJournal_49, sX7_pokeJournal_50, sX7_pokeJournal_51, sX7_pokeJournal_52, hp_o, hp_1, hp_2, hp_3, hp_4, hp_5, hp_6, hp_7, hp_8, hp_9, hp_10, hp_11, hp_12, hp_13, hp_14, hp_15, hp_16, wp_o, wp_j, wp_f, wp_1, wp_2, wp_3, wp_4, wp_5, wp_6, wp_7, wp_8, wp_9, wp_10, wp_11, wp_12, wp_13, wp_14, wp_15, wp_16, gf_0, pf_0, gf_1, pf_1, gf_2, pf_2, gf_3, pf_3, gf_4, pf_4, gf_5, pf_5, gf_6, pf_6, gf_7, pf_7, gf_8, pf_8, gf_9, pf_9, gf_10, pf_10, gf_11, pf_11, gf_12, pf_12, gf_13, pf_13, gf_14, pf_14, gf_15, pf_15, gf_16, pf_16, gf_17, pf_17, gf_18, pf_18, gf_19, pf_19, List.set_cons_zero, List.set_cons_succ, al_0, as_0, cl0, m8, m10, m12, m32, m40, m64, m400, m4800, bd_v, bi_v, Option.toList, List.cons_append, List.nil_append, List.length_cons, List.length_nil, Nat.reduceAdd, Nat.reduceLeDiff, ck_in, nI_add, nI_1, if_false, if_true, X_in, eq_false (mt q2.mp a2), show ¬ ((1 : Int32) = 0) by decide, not_false_eq_true, not_true_eq_false]
end
