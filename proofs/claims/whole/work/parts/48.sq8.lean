/-! the object's calls: the rest -/
section
variable {h : Nat → Option va_E} {z : Nat × Nat × Nat} {b n : Nat} {S Sv : Sh} {M J : Nat → Int32} {jl : Nat} {nm : List Int32}
theorem F_save (c : CI h b n (S, Sv, M, J, jl, nm)) (i : SI n (S, Sv, M, J, jl, nm)) : FR (cl 84 [.ref b] (h, z)) h b n z (opSave n (S, Sv, M, J, jl, nm)) := by
  have c : CC h b n S Sv M M J jl nm := c
  have hn : n ≤ 40 := i.1.2.2.2.1
  unfold opSave
  rw [eX6_save]
  by_cases q : nzc M (64 * n) = 0
  · rw [if_pos q]
    have hs := c.2.2.2.2.1.sh (nzM q)
    obtain ⟨tf', b1, b2⟩ := id c.2.2.2.2.2.1
    obtain ⟨h1, y1, y2, y3⟩ := Shelf_copyFrom (z := z) (s := b + 17 + 3 * n) (s' := b + 10) hn (by omega) (fun i j _ hj => pgF_64 (Sv.dep i) (Sv.rec i) hj) b1 hs i.1
    have cc1 := c.s y3 y2
    have ct := Jr_cutTo (z := z) cc1.2.1 0
    have cc2 := cc1.j (frI.u (by omega) (by omega)) (cc1.2.1.cut 0)
    have hac : cl 59 [.ref (b + 10)] (am_up h1 (b + 1) (obj 1 [.ref (b + 1 + 1), .int (nI 0)]), z) = some (.inl (some (.int (nI S.acts))), (am_up h1 (b + 1) (obj 1 [.ref (b + 1 + 1), .int (nI 0)]), z)) := by obtain ⟨tf, a1, -⟩ := cc2.2.2.2.2.1; exact Shelf_acts a1
    have hs2 := cc2.2.2.2.2.1.sh (nzM q)
    rw [show nI 0 = (0 : Int32) from rfl] at ct
    refine ⟨_, ?_, cc2, (y3.w (by omega) (by omega)).t (frI.u (by omega) (by omega))⟩
    simp only [sX6_save_0, sX6_save_1, sX6_save_4, sX6_save_5, sX6_save_8, sX6_save_9, sX6_save_12, sX6_save_15, sX6_save_16, sX6_save_19, sX6_save_20, sX6_save_23, sX6_save_24, sX6_save_27, sX6_save_30, c.1, hs.head, b1.1, gf_0, gf_1, gf_2, gf_3, gf_4, gf_5, pf_0, pf_1, pf_2, pf_3, pf_4, pf_5, List.set_cons_zero, List.set_cons_succ, bd_v, bi_v, Option.toList, List.cons_append, List.nil_append, List.length_cons, List.length_nil, Nat.reduceAdd, Nat.reduceLeDiff, ck_in, nI_add, nI_1, if_false, if_true, rSound_n c hn q, y1, cc1.1, cc1.2.1.1, ct]
    rw [show (0 : Int32) = nI 0 from rfl]
    simp only [sX6_save_0, sX6_save_1, sX6_save_4, sX6_save_5, sX6_save_8, sX6_save_9, sX6_save_12, sX6_save_15, sX6_save_16, sX6_save_19, sX6_save_20, sX6_save_23, sX6_save_24, sX6_save_27, sX6_save_30, cc2.1, hs2.head, gf_0, gf_1, gf_2, gf_3, gf_4, gf_5, pf_0, pf_1, pf_2, pf_3, pf_4, pf_5, List.set_cons_zero, List.set_cons_succ, bd_v, bi_v, Option.toList, List.cons_append, List.nil_append, List.length_cons, List.length_nil, Nat.reduceAdd, Nat.reduceLeDiff, ck_in, nI_add, nI_1, if_false, if_true, hac]
    rfl
  · rw [if_neg q]
    refine ⟨h, ?_, c, frI.r⟩
    simp only [sX6_save_0, sX6_save_1, sX6_save_4, sX6_save_5, sX6_save_8, sX6_save_9, sX6_save_12, sX6_save_15, sX6_save_16, sX6_save_19, sX6_save_20, sX6_save_23, sX6_save_24, sX6_save_27, sX6_save_30, c.1, gf_0, gf_1, gf_2, gf_3, gf_4, gf_5, pf_0, pf_1, pf_2, pf_3, pf_4, pf_5, List.set_cons_zero, List.set_cons_succ, bd_v, bi_v, Option.toList, List.cons_append, List.nil_append, List.length_cons, List.length_nil, Nat.reduceAdd, Nat.reduceLeDiff, ck_in, nI_add, nI_1, if_false, if_true, rSound_y c hn q, bd_x]
    rfl
theorem nmof_cpy {f : Nat → Int32} {p m : Nat} : nmof m (cpy J f (p + 1) 0 m) = nmof m (fun i => J (p + 1 + i)) := by
  refine (nmof_eq (nmof_len _ _) (fun i hi => ?_)).symm
  rw [nmof_get hi, cpy_in (by omega) (by omega)]
  rfl
theorem replay_l (hn : n ≤ 40) (hM : ∀ j, j < 64 * n → M j = 0) (hjl : jl ≤ 600) : ∀ (m k p : Nat) (S : Sh) (h : Nat → Option va_E), k + m = 600 → p ≤ 600 → WF n S → CC h b n S Sv M M J jl nm →
    ∃ h', rn 86 4 [.ref b, .int (nI p), .int (nI k)] [] (h, z) = some (.inl (some (.int (nI (rpl n J jl m p S).1))), (h', z)) ∧ CC h' b n (rpl n J jl m p S).2 Sv M M J jl nm ∧ frI b (b + 27 + 6 * n) h h' := by
  intro m
  induction m with
  | zero =>
    intro k p S h hk hp w c
    have q1 : (600 : Int32) ≤ nI k := by rw [show (600 : Int32) = nI 600 from rfl, nI_leI (by omega) (by omega)]; omega
    refine ⟨h, ?_, c, frI.r⟩
    rw [sX6_replay_4]
    simp only [sX6_replay_0, sX6_replay_1, sX6_replay_2, sX6_replay_3, sX6_replay_5, sX6_replay_8, sX6_replay_11, sX6_replay_12, sX6_replay_15, sX6_replay_16, sX6_replay_19, sX6_replay_22, sX6_replay_23, sX6_replay_24, sX6_replay_25, sX6_replay_28, sX6_replay_29, sX6_replay_30, sX6_replay_33, sX6_replay_36, sX6_replay_37, sX6_replay_40, sX6_replay_41, sX6_replay_44, sX6_replay_45, sX6_replay_48, sX6_replay_49, sX6_replay_52, sX6_replay_55, sX6_replay_58, sX6_replay_59, sX6_replay_60, sX6_replay_61, sX6_replay_62, sX6_replay_65, sX6_replay_66, sX6_replay_69, sX6_replay_70, sX6_replay_71, sX6_replay_74, sX6_replay_77, sX6_replay_78, q1, if_true]
    rfl
  | succ m ih =>
    intro k p S h hk hp w c
    have q1 : ¬ (600 : Int32) ≤ nI k := by rw [show (600 : Int32) = nI 600 from rfl, nI_leI (by omega) (by omega)]; omega
    have hw := Jr_whole (z := z) c.2.1 hjl hp
    have q2 : ¬ ((1 : Int32) = 0) := by decide
    rw [sX6_replay_4, rpl]
    by_cases cw : whl J jl p = true
    · rw [if_pos cw] at hw ⊢
      have cw' := cw
      unfold whl at cw'
      rw [decide_eq_true_eq] at cw'
      obtain ⟨l4, f4, c4⟩ := id c.2.2.2.1
      have hm : J p = nI (un (J p)) := (nI_un _).symm
      have rd := Jr_readName (z := z) c.2.1 c4 (by omega) (p := p) (by omega) hm cw'.2.2.1
      have c4' : NameAt (am_up (am_up h (b + 7) (obj 2 [.ref (b + 8), .int (nI (un (J p)))])) (b + 9) (ints 12 (cpy J f4 (p + 1) 0 (un (J p))))) (b + 7) (b + 8) (b + 9) (un (J p)) (cpy J f4 (p + 1) 0 (un (J p))) := ⟨by rw [up_n (by omega)]; exact up_s _ _ _, by rw [up_n (by omega), up_n (by omega)]; exact c4.2.1, up_s _ _ _, cw'.2.2.1⟩
      have f1 : frI (b + 7) (b + 10) h (am_up (am_up h (b + 7) (obj 2 [.ref (b + 8), .int (nI (un (J p)))])) (b + 9) (ints 12 (cpy J f4 (p + 1) 0 (un (J p))))) := (frI.u (by omega) (by omega)).t (frI.u (by omega) (by omega))
      have cc1 := c.r f1 ⟨_, _, c4'⟩
      generalize am_up (am_up h (b + 7) (obj 2 [.ref (b + 8), .int (nI (un (J p)))])) (b + 9) (ints 12 (cpy J f4 (p + 1) 0 (un (J p)))) = h1 at rd c4' f1 cc1
      have nu := Jr_number (z := z) cc1.2.1 (p := p) (m := un (J p)) (by omega) hm
      have hs := cc1.2.2.2.2.1.sh hM
      obtain ⟨t1, t2⟩ := Shelf_accept (z := z) hs w c4' (by omega) (by omega) (by omega) (num J (p + 1 + un (J p)))
      rw [nmof_cpy] at t1 t2
      cases ha : accept n (nmof (un (J p)) (fun i => J (p + 1 + i))) (num J (p + 1 + un (J p))) S with
      | none =>
        refine ⟨h1, ?_, cc1, f1.w (by omega) (by omega)⟩
        simp only [sX6_replay_0, sX6_replay_1, sX6_replay_2, sX6_replay_3, sX6_replay_5, sX6_replay_8, sX6_replay_11, sX6_replay_12, sX6_replay_15, sX6_replay_16, sX6_replay_19, sX6_replay_22, sX6_replay_23, sX6_replay_24, sX6_replay_25, sX6_replay_28, sX6_replay_29, sX6_replay_30, sX6_replay_33, sX6_replay_36, sX6_replay_37, sX6_replay_40, sX6_replay_41, sX6_replay_44, sX6_replay_45, sX6_replay_48, sX6_replay_49, sX6_replay_52, sX6_replay_55, sX6_replay_58, sX6_replay_59, sX6_replay_60, sX6_replay_61, sX6_replay_62, sX6_replay_65, sX6_replay_66, sX6_replay_69, sX6_replay_70, sX6_replay_71, sX6_replay_74, sX6_replay_77, sX6_replay_78, q1, c.1, c.2.1.1, c4.1, gf_0, gf_1, gf_2, gf_3, gf_4, gf_5, pf_0, pf_1, pf_2, pf_3, pf_4, pf_5, List.set_cons_zero, List.set_cons_succ, bd_v, bi_v, Option.toList, List.cons_append, List.nil_append, List.length_cons, List.length_nil, Nat.reduceAdd, Nat.reduceLeDiff, ck_in, nI_add, nI_1, if_false, if_true, hw, q2, not_false_eq_true, rd, cc1.1, cc1.2.1.1, c4'.1, hs.head, nu, t1 ha, not_true_eq_false]
      | some S' =>
        obtain ⟨h2, y1, y2, y3⟩ := t2 S' ha
        have cc2 := cc1.l y3 (y2.lv hM)
        have as := Jr_actSize (z := z) cc2.2.1 (p := p) (by omega) hm
        obtain ⟨h3, w1, w2, w3⟩ := ih (k + 1) (p + (un (J p) + 6)) S' h2 (by omega) (by omega) (accept_WF (by rw [nmof_len]; exact ⟨cw'.2.1, cw'.2.2.1⟩) w ha) cc2
        refine ⟨h3, ?_, w2, ((f1.w (by omega) (by omega)).t (y3.w (by omega) (by omega))).t w3⟩
        simp only [sX6_replay_0, sX6_replay_1, sX6_replay_2, sX6_replay_3, sX6_replay_5, sX6_replay_8, sX6_replay_11, sX6_replay_12, sX6_replay_15, sX6_replay_16, sX6_replay_19, sX6_replay_22, sX6_replay_23, sX6_replay_24, sX6_replay_25, sX6_replay_28, sX6_replay_29, sX6_replay_30, sX6_replay_33, sX6_replay_36, sX6_replay_37, sX6_replay_40, sX6_replay_41, sX6_replay_44, sX6_replay_45, sX6_replay_48, sX6_replay_49, sX6_replay_52, sX6_replay_55, sX6_replay_58, sX6_replay_59, sX6_replay_60, sX6_replay_61, sX6_replay_62, sX6_replay_65, sX6_replay_66, sX6_replay_69, sX6_replay_70, sX6_replay_71, sX6_replay_74, sX6_replay_77, sX6_replay_78, q1, c.1, c.2.1.1, c4.1, gf_0, gf_1, gf_2, gf_3, gf_4, gf_5, pf_0, pf_1, pf_2, pf_3, pf_4, pf_5, List.set_cons_zero, List.set_cons_succ, bd_v, bi_v, Option.toList, List.cons_append, List.nil_append, List.length_cons, List.length_nil, Nat.reduceAdd, Nat.reduceLeDiff, ck_in, nI_add, nI_1, if_false, if_true, hw, q2, not_false_eq_true, rd, cc1.1, cc1.2.1.1, c4'.1, hs.head, nu, y1, cc2.1, cc2.2.1.1, as]
        exact w1
    · rw [if_neg cw] at hw ⊢
      refine ⟨h, ?_, c, frI.r⟩
      simp only [sX6_replay_0, sX6_replay_1, sX6_replay_2, sX6_replay_3, sX6_replay_5, sX6_replay_8, sX6_replay_11, sX6_replay_12, sX6_replay_15, sX6_replay_16, sX6_replay_19, sX6_replay_22, sX6_replay_23, sX6_replay_24, sX6_replay_25, sX6_replay_28, sX6_replay_29, sX6_replay_30, sX6_replay_33, sX6_replay_36, sX6_replay_37, sX6_replay_40, sX6_replay_41, sX6_replay_44, sX6_replay_45, sX6_replay_48, sX6_replay_49, sX6_replay_52, sX6_replay_55, sX6_replay_58, sX6_replay_59, sX6_replay_60, sX6_replay_61, sX6_replay_62, sX6_replay_65, sX6_replay_66, sX6_replay_69, sX6_replay_70, sX6_replay_71, sX6_replay_74, sX6_replay_77, sX6_replay_78, q1, c.1, c.2.1.1, gf_0, gf_1, gf_2, gf_3, gf_4, gf_5, pf_0, pf_1, pf_2, pf_3, pf_4, pf_5, List.set_cons_zero, List.set_cons_succ, bd_v, bi_v, Option.toList, List.cons_append, List.nil_append, List.length_cons, List.length_nil, Nat.reduceAdd, Nat.reduceLeDiff, ck_in, nI_add, nI_1, if_false, if_true, hw, not_true_eq_false]
theorem F_crash (c : CI h b n (S, Sv, M, J, jl, nm)) (i : SI n (S, Sv, M, J, jl, nm)) (k : Int32) : FR (cl 85 [.ref b, .int k] (h, z)) h b n z (opCrash n k (S, Sv, M, J, jl, nm)) := by
  have c : CC h b n S Sv M M J jl nm := c
  have hn : n ≤ 40 := i.1.2.2.2.1
  have hj : jl ≤ 600 := i.2.2.1
  have hMz : ∀ j, 64 * n ≤ j → M j = 0 := i.2.2.2.2.2
  have e1 : (k < 0) ↔ (un k < 0 ∨ 2 ^ 31 ≤ un k) := lt_un (k := 0) (by omega)
  have e2 : (k ≤ nI jl) ↔ (un k ≤ jl ∨ 2 ^ 31 ≤ un k) := ge_un (k := jl) (by omega)
  have hu := un_lt k
  unfold opCrash
  rw [eX6_crash]
  dsimp only
  by_cases q : un k ≤ jl
  · have e1' : ¬ k < 0 := fun y => by have := e1.mp y; omega
    have e2' : k ≤ nI jl := e2.mpr (by omega)
    rw [if_pos q]
    obtain ⟨f, c3, -⟩ := id c.2.2.1
    obtain ⟨h1, k1, k2, k3⟩ := c.cl0
    obtain ⟨h2, a1, a2, a3⟩ := Al_clear (z := z) hn k2.2.2.2.2.2.2
    have eM : (fun j => if j < 64 * n then 0 else M j) = fun _ => 0 := by
      funext j
      by_cases d : j < 64 * n
      · rw [if_pos d]
      · rw [if_neg d]; exact hMz j (by omega)
    rw [eM] at a2
    have f2 : frI (b + 24 + 6 * n) (b + 27 + 6 * n) h1 h2 := frI.of a3 (by simp; omega)
    have cc2 := k2.a f2 a2
    obtain ⟨tf, b1, b2⟩ := id cc2.2.2.2.2.1
    obtain ⟨h3, y1, y2, y3⟩ := Shelf_copyFrom (z := z) (s := b + 10) (s' := b + 17 + 3 * n) hn (by omega) (fun i j _ hj => mskd_64 hj) b1 cc2.2.2.2.2.2.1 i.2.1
    have cc3 := cc2.l y3 (y2.lv (M := fun _ => 0) (fun _ _ => rfl))
    have ct := Jr_cutTo (z := z) cc3.2.1 (un k)
    rw [nI_un] at ct
    have cc4 := cc3.j (frI.u (by omega) (by omega)) (cc3.2.1.cut (un k))
    rw [nI_un] at cc4
    have f4 : frI (b + 1) (b + 4) h3 (am_up h3 (b + 1) (obj 1 [.ref (b + 1 + 1), .int k])) := frI.u (by omega) (by omega)
    generalize am_up h3 (b + 1) (obj 1 [.ref (b + 1 + 1), .int k]) = h4 at ct cc4 f4
    obtain ⟨h5, r1, r2, r3⟩ := replay_l (z := z) hn (fun _ _ => rfl) (show un k ≤ 600 by omega) 600 0 0 Sv h4 (by omega) (by omega) i.2.1 cc4
    have rp : cl 86 [.ref b] (h4, z) = some (.inl (some (.int (nI (rpl n J (un k) 600 0 Sv).1))), (h5, z)) := by
      rw [eX6_replay]
      simp only [sX6_replay_0, sX6_replay_1, sX6_replay_2, sX6_replay_3]
      exact r1
    have ct5 := Jr_cutTo (z := z) r2.2.1 (rpl n J (un k) 600 0 Sv).1
    have cc6 := r2.j (frI.u (by omega) (by omega)) (r2.2.1.cut (rpl n J (un k) 600 0 Sv).1)
    have f6 : frI (b + 1) (b + 4) h5 (am_up h5 (b + 1) (obj 1 [.ref (b + 1 + 1), .int (nI (rpl n J (un k) 600 0 Sv).1)])) := frI.u (by omega) (by omega)
    generalize am_up h5 (b + 1) (obj 1 [.ref (b + 1 + 1), .int (nI (rpl n J (un k) 600 0 Sv).1)]) = h6 at ct5 cc6 f6
    have hs6 := cc6.2.2.2.2.1.sh (fun _ _ => rfl)
    have hac : cl 59 [.ref (b + 10)] (h6, z) = some (.inl (some (.int (nI (rpl n J (un k) 600 0 Sv).2.acts))), (h6, z)) := by obtain ⟨tf, a1, -⟩ := hs6; exact Shelf_acts a1
    refine ⟨h6, ?_, cc6, ((((k3.t (f2.w (by omega) (by omega))).t (y3.w (by omega) (by omega))).t (f4.w (by omega) (by omega))).t r3).t (f6.w (by omega) (by omega))⟩
    simp only [sX6_crash_0, sX6_crash_1, sX6_crash_4, sX6_crash_5, sX6_crash_6, sX6_crash_9, sX6_crash_12, sX6_crash_15, sX6_crash_18, sX6_crash_18i, sX6_crash_25, sX6_crash_26, sX6_crash_29, sX6_crash_32, sX6_crash_33, sX6_crash_36, sX6_crash_39, sX6_crash_40, sX6_crash_43, sX6_crash_44, sX6_crash_47, sX6_crash_50, sX6_crash_51, sX6_crash_54, sX6_crash_55, sX6_crash_58, sX6_crash_59, sX6_crash_62, sX6_crash_63, sX6_crash_66, sX6_crash_69, sX6_crash_70, sX6_crash_73, sX6_crash_76, c.1, c.2.1.1, c3.1, gf_0, gf_1, gf_2, gf_3, gf_4, gf_5, pf_0, pf_1, pf_2, pf_3, pf_4, pf_5, List.set_cons_zero, List.set_cons_succ, bd_v, bi_v, Option.toList, List.cons_append, List.nil_append, List.length_cons, List.length_nil, Nat.reduceAdd, Nat.reduceLeDiff, ck_in, nI_add, nI_1, if_false, if_true, e1', Jr_length c.2.1, e2', k1, k2.1, k2.2.2.2.2.2.2.1, a1, cc2.1, b1.1, y1, cc3.1, cc3.2.1.1, ct, cc4.1, cc4.2.1.1, rp, r2.2.1.1, ct5, cc6.1, hs6.head, hac]
    rfl
  · rw [if_neg q]
    refine ⟨h, ?_, c, frI.r⟩
    by_cases y : k < 0
    · simp only [sX6_crash_0, sX6_crash_1, sX6_crash_4, sX6_crash_5, sX6_crash_6, sX6_crash_9, sX6_crash_12, sX6_crash_15, sX6_crash_18, sX6_crash_18i, sX6_crash_25, sX6_crash_26, sX6_crash_29, sX6_crash_32, sX6_crash_33, sX6_crash_36, sX6_crash_39, sX6_crash_40, sX6_crash_43, sX6_crash_44, sX6_crash_47, sX6_crash_50, sX6_crash_51, sX6_crash_54, sX6_crash_55, sX6_crash_58, sX6_crash_59, sX6_crash_62, sX6_crash_63, sX6_crash_66, sX6_crash_69, sX6_crash_70, sX6_crash_73, sX6_crash_76, y, if_true]
      rfl
    · have e2' : ¬ k ≤ nI jl := fun w => by have := e2.mp w; have : ¬ (un k < 0 ∨ 2 ^ 31 ≤ un k) := fun v => y (e1.mpr v); omega
      simp only [sX6_crash_0, sX6_crash_1, sX6_crash_4, sX6_crash_5, sX6_crash_6, sX6_crash_9, sX6_crash_12, sX6_crash_15, sX6_crash_18, sX6_crash_18i, sX6_crash_25, sX6_crash_26, sX6_crash_29, sX6_crash_32, sX6_crash_33, sX6_crash_36, sX6_crash_39, sX6_crash_40, sX6_crash_43, sX6_crash_44, sX6_crash_47, sX6_crash_50, sX6_crash_51, sX6_crash_54, sX6_crash_55, sX6_crash_58, sX6_crash_59, sX6_crash_62, sX6_crash_63, sX6_crash_66, sX6_crash_69, sX6_crash_70, sX6_crash_73, sX6_crash_76, y, c.1, c.2.1.1, gf_0, gf_1, gf_2, gf_3, gf_4, gf_5, pf_0, pf_1, pf_2, pf_3, pf_4, pf_5, List.set_cons_zero, List.set_cons_succ, bd_v, bi_v, Option.toList, List.cons_append, List.nil_append, List.length_cons, List.length_nil, Nat.reduceAdd, Nat.reduceLeDiff, ck_in, nI_add, nI_1, if_false, if_true, Jr_length c.2.1, e2']
      rfl
theorem Lv_size {s : Nat} (a : LvL h s n S M) : cl 57 [.ref s] (h, z) = some (.inl (some (.int (nI n))), (h, z)) := by
  obtain ⟨tf, a1, -⟩ := a
  exact Shelf_size a1
theorem Lv_head {s : Nat} (a : LvL h s n S M) : h s = some (obj 5 [.ref (s + 6), .ref (s + 1), .ref (s + 4), .int (nI S.D), .int (nI S.used), .int (nI S.acts)]) := by
  obtain ⟨tf, a1, -⟩ := a
  exact a1.1
theorem Lv_page {s : Nat} (a : LvL h s n S M) (hn : n ≤ 40) {k : Nat} (hk : k < n) : cl 58 [.ref s, .int (nI k)] (h, z) = some (.inl (some (.ref (s + 7 + 3 * k))), (h, z)) := by
  obtain ⟨tf, a1, -⟩ := a
  exact Shelf_page a1 hn hk
theorem Lv_pg {s : Nat} (a : LvL h s n S M) {k : Nat} (hk : k < n) : PgL h (s + 7 + 3 * k) (mskd S M k) (2 + tsz (S.rec k)) := by
  obtain ⟨tf, a1, -⟩ := a
  exact a1.2.2.2.2.2 k hk
theorem rPage_n (c : CC h b n S Sv M M J jl nm) (hn : n ≤ 40) {p k : Int32} (q : un p < n ∧ un k < 64) : cl 88 [.ref b, .int p, .int k] (h, z) = some (.inl none, (h, z)) := by
  have e1 : ¬ p < 0 := fun y => by have := (lt_un (k := 0) (by omega)).mp y; omega
  have e2 : ¬ nI n ≤ p := fun y => by have := (le_un (k := n) (by omega)).mp y; omega
  have e3 : ¬ k < 0 := fun y => by have := (lt_un (k := 0) (by omega)).mp y; omega
  have e4 : k < 64 := (lt_un (k := 64) (by omega)).mpr (by omega)
  rw [eX6_requirePageByte]
  simp only [sX6_requirePageByte_0, sX6_requirePageByte_1, sX6_requirePageByte_4, sX6_requirePageByte_5, sX6_requirePageByte_6, sX6_requirePageByte_9, sX6_requirePageByte_12, sX6_requirePageByte_15, sX6_requirePageByte_16, sX6_requirePageByte_19, sX6_requirePageByte_20, sX6_requirePageByte_22, sX6_requirePageByte_25, sX6_requirePageByte_28, sX6_requirePageByte_28i, sX6_requirePageByte_35, c.1, Lv_head c.2.2.2.2.1, gf_0, gf_1, gf_2, gf_3, gf_4, gf_5, pf_0, pf_1, pf_2, pf_3, pf_4, pf_5, List.set_cons_zero, List.set_cons_succ, bd_v, bi_v, Option.toList, List.cons_append, List.nil_append, List.length_cons, List.length_nil, Nat.reduceAdd, Nat.reduceLeDiff, ck_in, nI_add, nI_1, if_false, if_true, e1, e2, e3, e4, Lv_size c.2.2.2.2.1]
theorem rPage_y (c : CC h b n S Sv M M J jl nm) (hn : n ≤ 40) {p k : Int32} (q : ¬ (un p < n ∧ un k < 64)) : cl 88 [.ref b, .int p, .int k] (h, z) = some (.inr 2, (h, 0, z.2.1 + 1, z.2.2 + 6)) := by
  have e1 : (p < 0) ↔ (un p < 0 ∨ 2 ^ 31 ≤ un p) := lt_un (k := 0) (by omega)
  have e2 : (nI n ≤ p) ↔ (n ≤ un p ∧ un p < 2 ^ 31) := le_un (k := n) (by omega)
  have e3 : (k < 0) ↔ (un k < 0 ∨ 2 ^ 31 ≤ un k) := lt_un (k := 0) (by omega)
  have e4 : (k < 64) ↔ (un k < 64 ∨ 2 ^ 31 ≤ un k) := lt_un (k := 64) (by omega)
  rw [eX6_requirePageByte]
  by_cases q1 : p < 0
  · simp only [sX6_requirePageByte_0, sX6_requirePageByte_1, sX6_requirePageByte_4, sX6_requirePageByte_5, sX6_requirePageByte_6, sX6_requirePageByte_9, sX6_requirePageByte_12, sX6_requirePageByte_15, sX6_requirePageByte_16, sX6_requirePageByte_19, sX6_requirePageByte_20, sX6_requirePageByte_22, sX6_requirePageByte_25, sX6_requirePageByte_28, sX6_requirePageByte_28i, sX6_requirePageByte_35, q1, if_true]
  · by_cases q2 : nI n ≤ p
    · simp only [sX6_requirePageByte_0, sX6_requirePageByte_1, sX6_requirePageByte_4, sX6_requirePageByte_5, sX6_requirePageByte_6, sX6_requirePageByte_9, sX6_requirePageByte_12, sX6_requirePageByte_15, sX6_requirePageByte_16, sX6_requirePageByte_19, sX6_requirePageByte_20, sX6_requirePageByte_22, sX6_requirePageByte_25, sX6_requirePageByte_28, sX6_requirePageByte_28i, sX6_requirePageByte_35, c.1, Lv_head c.2.2.2.2.1, gf_0, gf_1, gf_2, gf_3, gf_4, gf_5, pf_0, pf_1, pf_2, pf_3, pf_4, pf_5, List.set_cons_zero, List.set_cons_succ, bd_v, bi_v, Option.toList, List.cons_append, List.nil_append, List.length_cons, List.length_nil, Nat.reduceAdd, Nat.reduceLeDiff, ck_in, nI_add, nI_1, if_false, if_true, q1, q2, Lv_size c.2.2.2.2.1]
    · by_cases q3 : k < 0
      · simp only [sX6_requirePageByte_0, sX6_requirePageByte_1, sX6_requirePageByte_4, sX6_requirePageByte_5, sX6_requirePageByte_6, sX6_requirePageByte_9, sX6_requirePageByte_12, sX6_requirePageByte_15, sX6_requirePageByte_16, sX6_requirePageByte_19, sX6_requirePageByte_20, sX6_requirePageByte_22, sX6_requirePageByte_25, sX6_requirePageByte_28, sX6_requirePageByte_28i, sX6_requirePageByte_35, c.1, Lv_head c.2.2.2.2.1, gf_0, gf_1, gf_2, gf_3, gf_4, gf_5, pf_0, pf_1, pf_2, pf_3, pf_4, pf_5, List.set_cons_zero, List.set_cons_succ, bd_v, bi_v, Option.toList, List.cons_append, List.nil_append, List.length_cons, List.length_nil, Nat.reduceAdd, Nat.reduceLeDiff, ck_in, nI_add, nI_1, if_false, if_true, q1, q2, q3, Lv_size c.2.2.2.2.1]
      · have q4 : ¬ k < 64 := fun y => by
          have h1 := mt e1.mpr q1
          have h2 := mt e2.mpr q2
          have h3 := mt e3.mpr q3
          have h4 := e4.mp y
          omega
        simp only [sX6_requirePageByte_0, sX6_requirePageByte_1, sX6_requirePageByte_4, sX6_requirePageByte_5, sX6_requirePageByte_6, sX6_requirePageByte_9, sX6_requirePageByte_12, sX6_requirePageByte_15, sX6_requirePageByte_16, sX6_requirePageByte_19, sX6_requirePageByte_20, sX6_requirePageByte_22, sX6_requirePageByte_25, sX6_requirePageByte_28, sX6_requirePageByte_28i, sX6_requirePageByte_35, c.1, Lv_head c.2.2.2.2.1, gf_0, gf_1, gf_2, gf_3, gf_4, gf_5, pf_0, pf_1, pf_2, pf_3, pf_4, pf_5, List.set_cons_zero, List.set_cons_succ, bd_v, bi_v, Option.toList, List.cons_append, List.nil_append, List.length_cons, List.length_nil, Nat.reduceAdd, Nat.reduceLeDiff, ck_in, nI_add, nI_1, if_false, if_true, q1, q2, q3, q4, Lv_size c.2.2.2.2.1]
theorem rMask_n {x : Int32} {σ : am_S} (q : 1 ≤ un x ∧ un x < 256) : cl 89 [.ref b, .int x] σ = some (.inl none, σ) := by
  have e1 : ¬ x < 1 := fun y => by have := (lt_un (k := 1) (by omega)).mp y; omega
  have e2 : x ≤ 255 := (ge_un (k := 255) (by omega)).mpr (by omega)
  rw [eX6_requireMask]
  simp only [sX6_requireMask_0, sX6_requireMask_1, sX6_requireMask_2, sX6_requireMask_5, sX6_requireMask_6, sX6_requireMask_9, sX6_requireMask_12, sX6_requireMask_15, sX6_requireMask_15i, sX6_requireMask_22, bd_v, bi_v, Option.toList, List.cons_append, List.nil_append, List.length_cons, List.length_nil, Nat.reduceAdd, Nat.reduceLeDiff, ck_in, nI_add, nI_1, if_false, if_true, e1, e2]
theorem rMask_y {x : Int32} {σ : am_S} (q : ¬ (1 ≤ un x ∧ un x < 256)) : cl 89 [.ref b, .int x] σ = some (.inr 0, (σ.1, 0, σ.2.2.1 + 1, σ.2.2.2 + 6)) := by
  have e1 : (x < 1) ↔ (un x < 1 ∨ 2 ^ 31 ≤ un x) := lt_un (k := 1) (by omega)
  have e2 : (x ≤ 255) ↔ (un x ≤ 255 ∨ 2 ^ 31 ≤ un x) := ge_un (k := 255) (by omega)
  rw [eX6_requireMask]
  by_cases q1 : x < 1
  · simp only [sX6_requireMask_0, sX6_requireMask_1, sX6_requireMask_2, sX6_requireMask_5, sX6_requireMask_6, sX6_requireMask_9, sX6_requireMask_12, sX6_requireMask_15, sX6_requireMask_15i, sX6_requireMask_22, q1, if_true]
  · have q2 : ¬ x ≤ 255 := fun y => by have h1 := mt e1.mpr q1; have h2 := e2.mp y; omega
    simp only [sX6_requireMask_0, sX6_requireMask_1, sX6_requireMask_2, sX6_requireMask_5, sX6_requireMask_6, sX6_requireMask_9, sX6_requireMask_12, sX6_requireMask_15, sX6_requireMask_15i, sX6_requireMask_22, q1, q2, if_false]
theorem F_byteAt (c : CI h b n (S, Sv, M, J, jl, nm)) (i : SI n (S, Sv, M, J, jl, nm)) (p k : Int32) : FR (cl 91 [.ref b, .int p, .int k] (h, z)) h b n z (opByte n p k (S, Sv, M, J, jl, nm)) := by
  have c : CC h b n S Sv M M J jl nm := c
  have hn : n ≤ 40 := i.1.2.2.2.1
  unfold opByte
  rw [eX6_byteAt]
  by_cases q : un p < n ∧ un k < 64
  · rw [if_pos q]
    have a1 := Lv_page (z := z) c.2.2.2.2.1 hn q.1
    rw [nI_un] at a1
    have a2 := Page_byteOf (z := z) (Lv_pg c.2.2.2.2.1 q.1) q.2
    rw [nI_un] at a2
    refine ⟨h, ?_, c, frI.r⟩
    simp only [sX6_byteAt_0, sX6_byteAt_1, sX6_byteAt_2, sX6_byteAt_3, sX6_byteAt_6, sX6_byteAt_7, sX6_byteAt_10, sX6_byteAt_11, sX6_byteAt_14, sX6_byteAt_15, sX6_byteAt_18, c.1, Lv_head c.2.2.2.2.1, (Lv_pg c.2.2.2.2.1 q.1).1, gf_0, gf_1, gf_2, gf_3, gf_4, gf_5, pf_0, pf_1, pf_2, pf_3, pf_4, pf_5, List.set_cons_zero, List.set_cons_succ, bd_v, bi_v, Option.toList, List.cons_append, List.nil_append, List.length_cons, List.length_nil, Nat.reduceAdd, Nat.reduceLeDiff, ck_in, nI_add, nI_1, if_false, if_true, rPage_n c hn q, a1, a2]
    rfl
  · rw [if_neg q]
    refine ⟨h, ?_, c, frI.r⟩
    simp only [sX6_byteAt_0, sX6_byteAt_1, sX6_byteAt_2, sX6_byteAt_3, sX6_byteAt_6, sX6_byteAt_7, sX6_byteAt_10, sX6_byteAt_11, sX6_byteAt_14, sX6_byteAt_15, sX6_byteAt_18, c.1, gf_0, gf_1, gf_2, gf_3, gf_4, gf_5, pf_0, pf_1, pf_2, pf_3, pf_4, pf_5, List.set_cons_zero, List.set_cons_succ, bd_v, bi_v, Option.toList, List.cons_append, List.nil_append, List.length_cons, List.length_nil, Nat.reduceAdd, Nat.reduceLeDiff, ck_in, nI_add, nI_1, if_false, if_true, rPage_y c hn q, bd_x]
    rfl
theorem F_poke (c : CI h b n (S, Sv, M, J, jl, nm)) (i : SI n (S, Sv, M, J, jl, nm)) (p k x : Int32) : FRv (cl 87 [.ref b, .int p, .int k, .int x] (h, z)) h b n z (opPoke n p k x (S, Sv, M, J, jl, nm)) := by
  have c : CC h b n S Sv M M J jl nm := c
  have hn : n ≤ 40 := i.1.2.2.2.1
  unfold opPoke
  rw [eX6_poke]
  by_cases q : un p < n ∧ un k < 64
  · rw [if_pos q]
    by_cases d : 1 ≤ un x ∧ un x < 256
    · rw [if_pos d]
      have a1 := Lv_page (z := z) c.2.2.2.2.1 hn q.1
      rw [nI_un] at a1
      have pg := Lv_pg c.2.2.2.2.1 q.1
      have a2 := Page_flip (z := z) pg q.2 x
      rw [nI_un] at a2
      obtain ⟨tf, l1, l2⟩ := id c.2.2.2.2.1
      obtain ⟨Fs, es, hps, hFs⟩ := l1.2.2.1
      have p2 := pg.row (upd (mskd S M (un p)) (un k) (mskd S M (un p) (un k) ^^^ x))
      have f1 : fre [b + 10 + 7 + 3 * un p + 2] h (am_up h (b + 10 + 7 + 3 * un p + 2) (ints 64 (upd (mskd S M (un p)) (un k) (mskd S M (un p) (un k) ^^^ x)))) := fre.up
      generalize am_up h (b + 10 + 7 + 3 * un p + 2) (ints 64 (upd (mskd S M (un p)) (un k) (mskd S M (un p) (un k) ^^^ x))) = h1 at a2 p2 f1
      have hmk : ∀ j, mskd S (upd M (64 * un p + un k) (M (64 * un p + un k) ^^^ x)) (un p) j = upd (mskd S M (un p)) (un k) (mskd S M (un p) (un k) ^^^ x) j := fun j => by
        by_cases e : j = un k
        · rw [e, upd_s]
          unfold mskd
          rw [if_pos q.2, if_pos q.2, upd_s, Int32.xor_assoc]
        · rw [upd_n e]
          unfold mskd
          by_cases e2 : j < 64
          · rw [if_pos e2, if_pos e2, upd_n (by omega)]
          · rw [if_neg e2, if_neg e2]
      have lv1 : LvL h1 (b + 10) n S (upd M (64 * un p + un k) (M (64 * un p + un k) ^^^ x)) := by
        refine ⟨tf, l1.pages (f1 _ (by simp; omega)) (f1 _ (by simp; omega)) (f1 _ (by simp; omega)) (f1 _ (by simp; omega)) ⟨Fs, es, hps.fr f1 (by simp; omega) (by simp; omega) (by simp; omega), hFs⟩ (fun r hr => ?_), l2⟩
        by_cases e : r = un p
        · rw [e, show mskd S (upd M (64 * un p + un k) (M (64 * un p + un k) ^^^ x)) (un p) = upd (mskd S M (un p)) (un k) (mskd S M (un p) (un k) ^^^ x) from funext hmk]
          exact p2
        · have e2 : mskd S (upd M (64 * un p + un k) (M (64 * un p + un k) ^^^ x)) r = mskd S M r := by
            funext j
            unfold mskd
            by_cases e2 : j < 64
            · rw [if_pos e2, if_pos e2, upd_n (by omega)]
            · rw [if_neg e2, if_neg e2]
          rw [e2]
          exact (l1.2.2.2.2.2 r hr).fr f1 (by simp; omega) (by simp; omega) (by simp; omega)
      have fI : frI (b + 10) (b + 10 + 7 + 3 * n) h h1 := frI.of f1 (by simp; omega)
      have cc1 := c.l fI lv1
      obtain ⟨h2, y1, y2, y3⟩ := Al_flip (z := z) hn cc1.2.2.2.2.2.2 q.1 q.2 x
      rw [nI_un, nI_un] at y1
      have f2 : frI (b + 24 + 6 * n) (b + 27 + 6 * n) h1 h2 := frI.of y3 (by simp; omega)
      refine ⟨h2, ?_, cc1.a f2 y2, (fI.w (by omega) (by omega)).t (f2.w (by omega) (by omega))⟩
      simp only [sX6_poke_0, sX6_poke_1, sX6_poke_2, sX6_poke_3, sX6_poke_6, sX6_poke_7, sX6_poke_8, sX6_poke_11, sX6_poke_12, sX6_poke_15, sX6_poke_16, sX6_poke_19, sX6_poke_20, sX6_poke_21, sX6_poke_24, sX6_poke_25, sX6_poke_28, sX6_poke_29, sX6_poke_30, sX6_poke_31, sX6_poke_34, c.1, Lv_head c.2.2.2.2.1, pg.1, gf_0, gf_1, gf_2, gf_3, gf_4, gf_5, pf_0, pf_1, pf_2, pf_3, pf_4, pf_5, List.set_cons_zero, List.set_cons_succ, bd_v, bi_v, Option.toList, List.cons_append, List.nil_append, List.length_cons, List.length_nil, Nat.reduceAdd, Nat.reduceLeDiff, ck_in, nI_add, nI_1, if_false, if_true, rPage_n c hn q, rMask_n d, a1, a2, cc1.1, cc1.2.2.2.2.2.2.1, y1]
      rfl
    · rw [if_neg d]
      refine ⟨h, ?_, c, frI.r⟩
      simp only [sX6_poke_0, sX6_poke_1, sX6_poke_2, sX6_poke_3, sX6_poke_6, sX6_poke_7, sX6_poke_8, sX6_poke_11, sX6_poke_12, sX6_poke_15, sX6_poke_16, sX6_poke_19, sX6_poke_20, sX6_poke_21, sX6_poke_24, sX6_poke_25, sX6_poke_28, sX6_poke_29, sX6_poke_30, sX6_poke_31, sX6_poke_34, c.1, gf_0, gf_1, gf_2, gf_3, gf_4, gf_5, pf_0, pf_1, pf_2, pf_3, pf_4, pf_5, List.set_cons_zero, List.set_cons_succ, bd_v, bi_v, Option.toList, List.cons_append, List.nil_append, List.length_cons, List.length_nil, Nat.reduceAdd, Nat.reduceLeDiff, ck_in, nI_add, nI_1, if_false, if_true, rPage_n c hn q, rMask_y d, bd_x]
      rfl
  · rw [if_neg q]
    refine ⟨h, ?_, c, frI.r⟩
    simp only [sX6_poke_0, sX6_poke_1, sX6_poke_2, sX6_poke_3, sX6_poke_6, sX6_poke_7, sX6_poke_8, sX6_poke_11, sX6_poke_12, sX6_poke_15, sX6_poke_16, sX6_poke_19, sX6_poke_20, sX6_poke_21, sX6_poke_24, sX6_poke_25, sX6_poke_28, sX6_poke_29, sX6_poke_30, sX6_poke_31, sX6_poke_34, c.1, gf_0, gf_1, gf_2, gf_3, gf_4, gf_5, pf_0, pf_1, pf_2, pf_3, pf_4, pf_5, List.set_cons_zero, List.set_cons_succ, bd_v, bi_v, Option.toList, List.cons_append, List.nil_append, List.length_cons, List.length_nil, Nat.reduceAdd, Nat.reduceLeDiff, ck_in, nI_add, nI_1, if_false, if_true, rPage_y c hn q, bd_x]
    rfl
theorem F_pokeJ (c : CI h b n (S, Sv, M, J, jl, nm)) (k x : Int32) : FRv (cl 90 [.ref b, .int k, .int x] (h, z)) h b n z (opPokeJ k x (S, Sv, M, J, jl, nm)) := by
  have c : CC h b n S Sv M M J jl nm := c
  have e1 : (k < 0) ↔ (un k < 0 ∨ 2 ^ 31 ≤ un k) := lt_un (k := 0) (by omega)
  have e2 : (k < 600) ↔ (un k < 600 ∨ 2 ^ 31 ≤ un k) := lt_un (k := 600) (by omega)
  unfold opPokeJ
  rw [eX6_pokeJournal]
  by_cases q : un k < 600
  · have e1' : ¬ k < 0 := fun y => by have := e1.mp y; omega
    have e2' : k < 600 := e2.mpr (by omega)
    rw [if_pos q]
    by_cases d : 1 ≤ un x ∧ un x < 256
    · rw [if_pos d]
      have a1 := Jr_flip (z := z) c.2.1 q x
      rw [nI_un] at a1
      refine ⟨_, ?_, c.j (frI.u (by omega) (by omega)) (c.2.1.row _), frI.u (by omega) (by omega)⟩
      simp only [sX6_pokeJournal_0, sX6_pokeJournal_1, sX6_pokeJournal_4, sX6_pokeJournal_5, sX6_pokeJournal_8, sX6_pokeJournal_11, sX6_pokeJournal_14, sX6_pokeJournal_14i, sX6_pokeJournal_21, sX6_pokeJournal_22, sX6_pokeJournal_23, sX6_pokeJournal_26, sX6_pokeJournal_27, sX6_pokeJournal_30, sX6_pokeJournal_31, sX6_pokeJournal_32, sX6_pokeJournal_35, c.1, c.2.1.1, gf_0, gf_1, gf_2, gf_3, gf_4, gf_5, pf_0, pf_1, pf_2, pf_3, pf_4, pf_5, List.set_cons_zero, List.set_cons_succ, bd_v, bi_v, Option.toList, List.cons_append, List.nil_append, List.length_cons, List.length_nil, Nat.reduceAdd, Nat.reduceLeDiff, ck_in, nI_add, nI_1, if_false, if_true, e1', e2', rMask_n d, a1]
      rfl
    · rw [if_neg d]
      refine ⟨h, ?_, c, frI.r⟩
      simp only [sX6_pokeJournal_0, sX6_pokeJournal_1, sX6_pokeJournal_4, sX6_pokeJournal_5, sX6_pokeJournal_8, sX6_pokeJournal_11, sX6_pokeJournal_14, sX6_pokeJournal_14i, sX6_pokeJournal_21, sX6_pokeJournal_22, sX6_pokeJournal_23, sX6_pokeJournal_26, sX6_pokeJournal_27, sX6_pokeJournal_30, sX6_pokeJournal_31, sX6_pokeJournal_32, sX6_pokeJournal_35, c.1, gf_0, gf_1, gf_2, gf_3, gf_4, gf_5, pf_0, pf_1, pf_2, pf_3, pf_4, pf_5, List.set_cons_zero, List.set_cons_succ, bd_v, bi_v, Option.toList, List.cons_append, List.nil_append, List.length_cons, List.length_nil, Nat.reduceAdd, Nat.reduceLeDiff, ck_in, nI_add, nI_1, if_false, if_true, e1', e2', rMask_y d, bd_x]
      rfl
  · rw [if_neg q]
    refine ⟨h, ?_, c, frI.r⟩
    by_cases y : k < 0
    · simp only [sX6_pokeJournal_0, sX6_pokeJournal_1, sX6_pokeJournal_4, sX6_pokeJournal_5, sX6_pokeJournal_8, sX6_pokeJournal_11, sX6_pokeJournal_14, sX6_pokeJournal_14i, sX6_pokeJournal_21, sX6_pokeJournal_22, sX6_pokeJournal_23, sX6_pokeJournal_26, sX6_pokeJournal_27, sX6_pokeJournal_30, sX6_pokeJournal_31, sX6_pokeJournal_32, sX6_pokeJournal_35, y, if_true]
      rfl
    · have e2' : ¬ k < 600 := fun w => by have h1 := mt e1.mpr y; have h2 := e2.mp w; omega
      simp only [sX6_pokeJournal_0, sX6_pokeJournal_1, sX6_pokeJournal_4, sX6_pokeJournal_5, sX6_pokeJournal_8, sX6_pokeJournal_11, sX6_pokeJournal_14, sX6_pokeJournal_14i, sX6_pokeJournal_21, sX6_pokeJournal_22, sX6_pokeJournal_23, sX6_pokeJournal_26, sX6_pokeJournal_27, sX6_pokeJournal_30, sX6_pokeJournal_31, sX6_pokeJournal_32, sX6_pokeJournal_35, y, e2', if_false]
      rfl
theorem badAt_l (c : CC h b n S Sv M M J jl nm) (hn : n ≤ 40) : ∀ (m k : Nat), k + m = n → rn 76 2 [.ref b, .int (nI k)] [] (h, z) = some (.inl (some (.int (badG (mskd S M) n m))), (h, z)) := by
  intro m
  induction m with
  | zero =>
    intro k hk
    have h1 : nI n ≤ nI k := by rw [nI_leI (by omega) (by omega)]; omega
    rw [sX6_badAt_2]
    simp only [sX6_badAt_0, sX6_badAt_1, sX6_badAt_3, sX6_badAt_4, sX6_badAt_7, sX6_badAt_10, sX6_badAt_13, sX6_badAt_14, sX6_badAt_17, sX6_badAt_18, sX6_badAt_21, sX6_badAt_24, sX6_badAt_27, sX6_badAt_28, sX6_badAt_29, sX6_badAt_32, sX6_badAt_35, sX6_badAt_36, c.1, Lv_head c.2.2.2.2.1, gf_0, gf_1, gf_2, gf_3, gf_4, gf_5, pf_0, pf_1, pf_2, pf_3, pf_4, pf_5, List.set_cons_zero, List.set_cons_succ, bd_v, bi_v, Option.toList, List.cons_append, List.nil_append, List.length_cons, List.length_nil, Nat.reduceAdd, Nat.reduceLeDiff, ck_in, nI_add, nI_1, if_false, if_true, Lv_size c.2.2.2.2.1, h1]
    rfl
  | succ m ih =>
    intro k hk
    have h1 : ¬ nI n ≤ nI k := by rw [nI_leI (by omega) (by omega)]; omega
    have pg := Lv_pg c.2.2.2.2.1 (show k < n by omega)
    have bd := Page_isBad (z := z) pg
    rw [sX6_badAt_2, badG, show n - (m + 1) = k by omega]
    by_cases q : sm mix (mskd S M k) 0 60 0 = num (mskd S M k) 60
    · rw [if_pos q] at bd ⊢
      simp only [sX6_badAt_0, sX6_badAt_1, sX6_badAt_3, sX6_badAt_4, sX6_badAt_7, sX6_badAt_10, sX6_badAt_13, sX6_badAt_14, sX6_badAt_17, sX6_badAt_18, sX6_badAt_21, sX6_badAt_24, sX6_badAt_27, sX6_badAt_28, sX6_badAt_29, sX6_badAt_32, sX6_badAt_35, sX6_badAt_36, c.1, Lv_head c.2.2.2.2.1, gf_0, gf_1, gf_2, gf_3, gf_4, gf_5, pf_0, pf_1, pf_2, pf_3, pf_4, pf_5, List.set_cons_zero, List.set_cons_succ, bd_v, bi_v, Option.toList, List.cons_append, List.nil_append, List.length_cons, List.length_nil, Nat.reduceAdd, Nat.reduceLeDiff, ck_in, nI_add, nI_1, if_false, if_true, Lv_size c.2.2.2.2.1, h1, Lv_page c.2.2.2.2.1 hn (show k < n by omega), pg.1, bd]
      exact ih (k + 1) (by omega)
    · rw [if_neg q] at bd ⊢
      simp only [sX6_badAt_0, sX6_badAt_1, sX6_badAt_3, sX6_badAt_4, sX6_badAt_7, sX6_badAt_10, sX6_badAt_13, sX6_badAt_14, sX6_badAt_17, sX6_badAt_18, sX6_badAt_21, sX6_badAt_24, sX6_badAt_27, sX6_badAt_28, sX6_badAt_29, sX6_badAt_32, sX6_badAt_35, sX6_badAt_36, c.1, Lv_head c.2.2.2.2.1, gf_0, gf_1, gf_2, gf_3, gf_4, gf_5, pf_0, pf_1, pf_2, pf_3, pf_4, pf_5, List.set_cons_zero, List.set_cons_succ, bd_v, bi_v, Option.toList, List.cons_append, List.nil_append, List.length_cons, List.length_nil, Nat.reduceAdd, Nat.reduceLeDiff, ck_in, nI_add, nI_1, if_false, if_true, Lv_size c.2.2.2.2.1, h1, Lv_page c.2.2.2.2.1 hn (show k < n by omega), pg.1, bd, show ¬ ((1 : Int32) = 0) by decide]
theorem F_badAt (c : CI h b n (S, Sv, M, J, jl, nm)) (i : SI n (S, Sv, M, J, jl, nm)) : FR (cl 76 [.ref b] (h, z)) h b n z (opBad n (S, Sv, M, J, jl, nm)) := by
  have c : CC h b n S Sv M M J jl nm := c
  refine ⟨h, ?_, c, frI.r⟩
  rw [eX6_badAt]
  simp only [sX6_badAt_0, sX6_badAt_1]
  exact badAt_l c i.1.2.2.2.1 n 0 (by omega)
theorem F_entry (c : CI h b n (S, Sv, M, J, jl, nm)) (i : SI n (S, Sv, M, J, jl, nm)) (k : Int32) : FR (cl 92 [.ref b, .int k] (h, z)) h b n z (opEntry k (S, Sv, M, J, jl, nm)) := by
  have c : CC h b n S Sv M M J jl nm := c
  have hD : S.D ≤ 5 := i.1.1
  have h32 := pow32 hD
  have e1 : (k < 0) ↔ (un k < 0 ∨ 2 ^ 31 ≤ un k) := lt_un (k := 0) (by omega)
  have e2 : (k < nI (2 ^ S.D)) ↔ (un k < 2 ^ S.D ∨ 2 ^ 31 ≤ un k) := lt_un (k := 2 ^ S.D) (by omega)
  have he : cl 63 [.ref (b + 10)] (h, z) = some (.inl (some (.int (nI (2 ^ S.D)))), (h, z)) := by obtain ⟨tf, a1, -⟩ := c.2.2.2.2.1; exact Shelf_entries a1 hD
  unfold opEntry
  rw [eX6_entry]
  by_cases q : un k < 2 ^ S.D
  · have e1' : ¬ k < 0 := fun y => by have := e1.mp y; omega
    have e2' : k < nI (2 ^ S.D) := e2.mpr (by omega)
    have hp : cl 71 [.ref (b + 10), .int k] (h, z) = some (.inl (some (.int (nI (S.tab (un k))))), (h, z)) := by
      obtain ⟨tf, a1, a2⟩ := c.2.2.2.2.1
      have := Shelf_pageAtEntry (z := z) a1 (k := un k) (by omega)
      rw [nI_un, a2 _ q] at this
      exact this
    rw [if_pos q]
    refine ⟨h, ?_, c, frI.r⟩
    simp only [sX6_entry_0, sX6_entry_1, sX6_entry_4, sX6_entry_5, sX6_entry_6, sX6_entry_9, sX6_entry_12, sX6_entry_15, sX6_entry_18, sX6_entry_18i, sX6_entry_25, sX6_entry_26, sX6_entry_29, sX6_entry_30, sX6_entry_33, c.1, Lv_head c.2.2.2.2.1, gf_0, gf_1, gf_2, gf_3, gf_4, gf_5, pf_0, pf_1, pf_2, pf_3, pf_4, pf_5, List.set_cons_zero, List.set_cons_succ, bd_v, bi_v, Option.toList, List.cons_append, List.nil_append, List.length_cons, List.length_nil, Nat.reduceAdd, Nat.reduceLeDiff, ck_in, nI_add, nI_1, if_false, if_true, e1', he, e2', hp]
    rfl
  · rw [if_neg q]
    refine ⟨h, ?_, c, frI.r⟩
    by_cases y : k < 0
    · simp only [sX6_entry_0, sX6_entry_1, sX6_entry_4, sX6_entry_5, sX6_entry_6, sX6_entry_9, sX6_entry_12, sX6_entry_15, sX6_entry_18, sX6_entry_18i, sX6_entry_25, sX6_entry_26, sX6_entry_29, sX6_entry_30, sX6_entry_33, y, if_true]
      rfl
    · have e2' : ¬ k < nI (2 ^ S.D) := fun w => by have h1 := mt e1.mpr y; have h2 := e2.mp w; omega
      simp only [sX6_entry_0, sX6_entry_1, sX6_entry_4, sX6_entry_5, sX6_entry_6, sX6_entry_9, sX6_entry_12, sX6_entry_15, sX6_entry_18, sX6_entry_18i, sX6_entry_25, sX6_entry_26, sX6_entry_29, sX6_entry_30, sX6_entry_33, c.1, Lv_head c.2.2.2.2.1, gf_0, gf_1, gf_2, gf_3, gf_4, gf_5, pf_0, pf_1, pf_2, pf_3, pf_4, pf_5, List.set_cons_zero, List.set_cons_succ, bd_v, bi_v, Option.toList, List.cons_append, List.nil_append, List.length_cons, List.length_nil, Nat.reduceAdd, Nat.reduceLeDiff, ck_in, nI_add, nI_1, if_false, if_true, y, he, e2']
      rfl
end
