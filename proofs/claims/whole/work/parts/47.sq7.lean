/-! the object's calls: class -/
def zt (o : Int32 ⊕ Nat) (z : Nat × Nat × Nat) : Nat × Nat × Nat := match o with
  | .inl _ => z
  | .inr _ => (0, z.2.1 + 1, z.2.2 + 6)
def ov (o : Int32 ⊕ Nat) : Option Value ⊕ Nat := match o with
  | .inl r => .inl (some (.int r))
  | .inr E => .inr E
def ovv (o : Int32 ⊕ Nat) : Option Value ⊕ Nat := match o with
  | .inl _ => .inl none
  | .inr E => .inr E
def FR (X : Option am_R) (h : Nat → Option va_E) (b n : Nat) (z : Nat × Nat × Nat) (o : (Int32 ⊕ Nat) × St) : Prop := ∃ h', X = some (ov o.1, (h', zt o.1 z)) ∧ CI h' b n o.2 ∧ frI b (b + 27 + 6 * n) h h'
def FRv (X : Option am_R) (h : Nat → Option va_E) (b n : Nat) (z : Nat × Nat × Nat) (o : (Int32 ⊕ Nat) × St) : Prop := ∃ h', X = some (ovv o.1, (h', zt o.1 z)) ∧ CI h' b n o.2 ∧ frI b (b + 27 + 6 * n) h h'
section
variable {h : Nat → Option va_E} {z : Nat × Nat × Nat} {b n : Nat} {S Sv : Sh} {M J : Nat → Int32} {jl : Nat} {nm : List Int32}
theorem rSound_n (c : CC h b n S Sv M M J jl nm) (hn : n ≤ 40) (q : nzc M (64 * n) = 0) : cl 80 [.ref b] (h, z) = some (.inl none, (h, z)) := by
  have a := Al_any (z := z) hn c.2.2.2.2.2.2
  rw [if_pos q] at a
  rw [eX6_requireSound]
  simp only [sX6_requireSound_0, sX6_requireSound_1, sX6_requireSound_4, sX6_requireSound_7, sX6_requireSound_10, sX6_requireSound_13, sX6_requireSound_13i, sX6_requireSound_20, c.1, c.2.2.2.2.2.2.1, gf_0, gf_1, gf_2, gf_3, gf_4, gf_5, pf_0, pf_1, pf_2, pf_3, pf_4, pf_5, List.set_cons_zero, List.set_cons_succ, bd_v, bi_v, Option.toList, List.cons_append, List.nil_append, List.length_cons, List.length_nil, Nat.reduceAdd, Nat.reduceLeDiff, ck_in, nI_add, nI_1, if_false, if_true, a]
theorem rSound_y (c : CC h b n S Sv M M J jl nm) (hn : n ≤ 40) (q : ¬ nzc M (64 * n) = 0) : cl 80 [.ref b] (h, z) = some (.inr 1, (h, 0, z.2.1 + 1, z.2.2 + 6)) := by
  have a := Al_any (z := z) hn c.2.2.2.2.2.2
  rw [if_neg q] at a
  rw [eX6_requireSound]
  simp only [sX6_requireSound_0, sX6_requireSound_1, sX6_requireSound_4, sX6_requireSound_7, sX6_requireSound_10, sX6_requireSound_13, sX6_requireSound_13i, sX6_requireSound_20, c.1, c.2.2.2.2.2.2.1, gf_0, gf_1, gf_2, gf_3, gf_4, gf_5, pf_0, pf_1, pf_2, pf_3, pf_4, pf_5, List.set_cons_zero, List.set_cons_succ, bd_v, bi_v, Option.toList, List.cons_append, List.nil_append, List.length_cons, List.length_nil, Nat.reduceAdd, Nat.reduceLeDiff, ck_in, nI_add, nI_1, if_false, if_true, a, show ¬ ((1 : Int32) = 0) by decide]
theorem rFed_n (c : CC h b n S Sv M M J jl nm) (hn : n ≤ 40) (hl : nm.length ≤ 12) (q : nzc M (64 * n) = 0 ∧ nm ≠ []) : cl 79 [.ref b] (h, z) = some (.inl none, (h, z)) := by
  obtain ⟨f, c3, -⟩ := c.2.2.1
  have e : ¬ (nI nm.length = 0) := fun x => q.2 (List.length_eq_zero_iff.mp ((nI_eq (b := 0) (by omega) (by omega)).mp x))
  rw [eX6_requireSoundAndFed]
  simp only [sX6_requireSoundAndFed_0, sX6_requireSoundAndFed_1, sX6_requireSoundAndFed_4, sX6_requireSoundAndFed_5, sX6_requireSoundAndFed_8, sX6_requireSoundAndFed_11, sX6_requireSoundAndFed_14, sX6_requireSoundAndFed_17, sX6_requireSoundAndFed_17i, sX6_requireSoundAndFed_24, c.1, c3.1, gf_0, gf_1, gf_2, gf_3, gf_4, gf_5, pf_0, pf_1, pf_2, pf_3, pf_4, pf_5, List.set_cons_zero, List.set_cons_succ, bd_v, bi_v, Option.toList, List.cons_append, List.nil_append, List.length_cons, List.length_nil, Nat.reduceAdd, Nat.reduceLeDiff, ck_in, nI_add, nI_1, if_false, if_true, rSound_n c hn q.1, Name_length c3, e, not_false_eq_true]
theorem rFed_y (c : CC h b n S Sv M M J jl nm) (hn : n ≤ 40) (q : ¬ (nzc M (64 * n) = 0 ∧ nm ≠ [])) : cl 79 [.ref b] (h, z) = some (.inr 1, (h, 0, z.2.1 + 1, z.2.2 + 6)) := by
  obtain ⟨f, c3, -⟩ := c.2.2.1
  rw [eX6_requireSoundAndFed]
  by_cases q1 : nzc M (64 * n) = 0
  · have e : ¬ ¬ (nI nm.length = 0) := fun x => q ⟨q1, fun y => x (by rw [y]; rfl)⟩
    simp only [sX6_requireSoundAndFed_0, sX6_requireSoundAndFed_1, sX6_requireSoundAndFed_4, sX6_requireSoundAndFed_5, sX6_requireSoundAndFed_8, sX6_requireSoundAndFed_11, sX6_requireSoundAndFed_14, sX6_requireSoundAndFed_17, sX6_requireSoundAndFed_17i, sX6_requireSoundAndFed_24, c.1, c3.1, gf_0, gf_1, gf_2, gf_3, gf_4, gf_5, pf_0, pf_1, pf_2, pf_3, pf_4, pf_5, List.set_cons_zero, List.set_cons_succ, bd_v, bi_v, Option.toList, List.cons_append, List.nil_append, List.length_cons, List.length_nil, Nat.reduceAdd, Nat.reduceLeDiff, ck_in, nI_add, nI_1, if_false, if_true, rSound_n c hn q1, Name_length c3, e]
  · simp only [sX6_requireSoundAndFed_0, sX6_requireSoundAndFed_1, sX6_requireSoundAndFed_4, sX6_requireSoundAndFed_5, sX6_requireSoundAndFed_8, sX6_requireSoundAndFed_11, sX6_requireSoundAndFed_14, sX6_requireSoundAndFed_17, sX6_requireSoundAndFed_17i, sX6_requireSoundAndFed_24, c.1, c3.1, gf_0, gf_1, gf_2, gf_3, gf_4, gf_5, pf_0, pf_1, pf_2, pf_3, pf_4, pf_5, List.set_cons_zero, List.set_cons_succ, bd_v, bi_v, Option.toList, List.cons_append, List.nil_append, List.length_cons, List.length_nil, Nat.reduceAdd, Nat.reduceLeDiff, ck_in, nI_add, nI_1, if_false, if_true, rSound_y c hn q1, bd_x]
theorem CC.cl0 (c : CC h b n S Sv M M J jl nm) : ∃ h', (∀ z, cl 19 [.ref (b + 4)] (h, z) = some (.inl none, (h', z))) ∧ CC h' b n S Sv M M J jl [] ∧ frI b (b + 27 + 6 * n) h h' := by
  obtain ⟨f, c3, -⟩ := c.2.2.1
  refine ⟨_, fun z => Name_clear c3, c.f (frI.u (by omega) (by omega)) ⟨f, ⟨up_s _ _ _, ?_, ?_, Nat.zero_le _⟩, rfl⟩, frI.u (by omega) (by omega)⟩
  · rw [up_n (by omega)]; exact c3.2.1
  · rw [up_n (by omega)]; exact c3.2.2.1
theorem F_feed (c : CI h b n (S, Sv, M, J, jl, nm)) (i : SI n (S, Sv, M, J, jl, nm)) (x : Int32) : FR (cl 77 [.ref b, .int x] (h, z)) h b n z (opFeed x (S, Sv, M, J, jl, nm)) := by
  have c : CC h b n S Sv M M J jl nm := c
  obtain ⟨f, c3, c3'⟩ := c.2.2.1
  have hl : nm.length ≤ 12 := i.2.2.2.1
  have e1 : (x < 0) ↔ (un x < 0 ∨ 2 ^ 31 ≤ un x) := lt_un (k := 0) (by omega)
  have e2 : (x ≤ 255) ↔ (un x ≤ 255 ∨ 2 ^ 31 ≤ un x) := ge_un (k := 255) (by omega)
  have hu := un_lt x
  unfold opFeed
  rw [eX6_feed]
  by_cases q : un x < 256
  · have e1' : ¬ x < 0 := fun y => by have := e1.mp y; omega
    have e2' : x ≤ 255 := e2.mpr (by omega)
    rw [if_pos q]
    by_cases d : nm.length = 12
    · rw [if_pos d]
      have t := Name_extend_no (z := z) c3 d x
      refine ⟨h, ?_, c, frI.r⟩
      simp only [sX6_feed_0, sX6_feed_1, sX6_feed_4, sX6_feed_5, sX6_feed_8, sX6_feed_11, sX6_feed_14, sX6_feed_14i, sX6_feed_21, sX6_feed_22, sX6_feed_25, sX6_feed_26, sX6_feed_29, sX6_feed_29t, c.1, c3.1, gf_0, gf_1, gf_2, gf_3, gf_4, gf_5, pf_0, pf_1, pf_2, pf_3, pf_4, pf_5, List.set_cons_zero, List.set_cons_succ, bd_v, bi_v, Option.toList, List.cons_append, List.nil_append, List.length_cons, List.length_nil, Nat.reduceAdd, Nat.reduceLeDiff, ck_in, nI_add, nI_1, if_false, if_true, e1', e2', t]
      rfl
    · rw [if_neg d]
      have t := Name_extend (z := z) c3 (by omega) x
      refine ⟨_, ?_, c.f (h' := am_up (am_up h (b + 6) (ints 12 (upd f nm.length x))) (b + 4) (obj 2 [.ref (b + 5), .int (nI (nm.length + 1))])) (nm' := nm ++ [x]) ((frI.u (by omega) (by omega)).t (frI.u (by omega) (by omega))) ⟨upd f nm.length x, ⟨?_, ?_, ?_, ?_⟩, ?_⟩, (frI.u (by omega) (by omega)).t (frI.u (by omega) (by omega))⟩
      · simp only [sX6_feed_0, sX6_feed_1, sX6_feed_4, sX6_feed_5, sX6_feed_8, sX6_feed_11, sX6_feed_14, sX6_feed_14i, sX6_feed_21, sX6_feed_22, sX6_feed_25, sX6_feed_26, sX6_feed_29, sX6_feed_29t, c.1, c3.1, gf_0, gf_1, gf_2, gf_3, gf_4, gf_5, pf_0, pf_1, pf_2, pf_3, pf_4, pf_5, List.set_cons_zero, List.set_cons_succ, bd_v, bi_v, Option.toList, List.cons_append, List.nil_append, List.length_cons, List.length_nil, Nat.reduceAdd, Nat.reduceLeDiff, ck_in, nI_add, nI_1, if_false, if_true, e1', e2', t]
        rfl
      · rw [List.length_append]; exact up_s _ _ _
      · rw [up_n (by omega), up_n (by omega)]; exact c3.2.1
      · rw [up_n (by omega)]; exact up_s _ _ _
      · simp; omega
      · refine nmof_eq rfl (fun k hk => ?_)
        rw [List.length_append, List.length_singleton] at hk
        by_cases e : k = nm.length
        · rw [e, upd_s, gD_r _ _ _ _ (Nat.le_refl _), Nat.sub_self]; rfl
        · rw [upd_n e, gD_l _ _ _ _ (by omega)]
          conv => lhs; rw [c3']
          exact nmof_get (by omega)
  · rw [if_neg q]
    refine ⟨h, ?_, c, frI.r⟩
    by_cases y : x < 0
    · simp only [sX6_feed_0, sX6_feed_1, sX6_feed_4, sX6_feed_5, sX6_feed_8, sX6_feed_11, sX6_feed_14, sX6_feed_14i, sX6_feed_21, sX6_feed_22, sX6_feed_25, sX6_feed_26, sX6_feed_29, sX6_feed_29t, y, if_true]
      rfl
    · have e2' : ¬ x ≤ 255 := fun w => by have := e2.mp w; have : ¬ (un x < 0 ∨ 2 ^ 31 ≤ un x) := fun v => y (e1.mpr v); omega
      simp only [sX6_feed_0, sX6_feed_1, sX6_feed_4, sX6_feed_5, sX6_feed_8, sX6_feed_11, sX6_feed_14, sX6_feed_14i, sX6_feed_21, sX6_feed_22, sX6_feed_25, sX6_feed_26, sX6_feed_29, sX6_feed_29t, y, e2', if_false]
      rfl
theorem nzM (q : nzc M (64 * n) = 0) : ∀ j, j < 64 * n → M j = 0 := (nzc_zero M (64 * n)).mp q
theorem F_has (c : CI h b n (S, Sv, M, J, jl, nm)) (i : SI n (S, Sv, M, J, jl, nm)) : FR (cl 82 [.ref b] (h, z)) h b n z (opHas n (S, Sv, M, J, jl, nm)) := by
  have c : CC h b n S Sv M M J jl nm := c
  obtain ⟨f, c3, c3'⟩ := c.2.2.1
  have hl : nm.length ≤ 12 := i.2.2.2.1
  have hn : n ≤ 40 := i.1.2.2.2.1
  unfold opHas opQ
  rw [eX6_has]
  by_cases q : nzc M (64 * n) = 0 ∧ nm ≠ []
  · rw [if_pos q]
    have hs := c.2.2.2.2.1.sh (nzM q.1)
    have t := Shelf_holds (z := z) hs i.1 c3
    rw [← c3'] at t
    obtain ⟨h', k1, k2, k3⟩ := c.cl0
    refine ⟨h', ?_, k2, k3⟩
    simp only [sX6_has_0, sX6_has_1, sX6_has_4, sX6_has_5, sX6_has_8, sX6_has_9, sX6_has_12, sX6_has_15, sX6_has_16, sX6_has_17, sX6_has_20, sX6_has_23, sX6_has_24, sX6_has_24t, c.1, c3.1, hs.head, gf_0, gf_1, gf_2, gf_3, gf_4, gf_5, pf_0, pf_1, pf_2, pf_3, pf_4, pf_5, List.set_cons_zero, List.set_cons_succ, bd_v, bi_v, Option.toList, List.cons_append, List.nil_append, List.length_cons, List.length_nil, Nat.reduceAdd, Nat.reduceLeDiff, ck_in, nI_add, nI_1, if_false, if_true, rFed_n c hn hl q, t, k1]
    by_cases m : nm ∈ (S.rec (S.at (hsh nm))).map Prod.fst
    · simp only [m, if_true, sX6_has_0, sX6_has_1, sX6_has_4, sX6_has_5, sX6_has_8, sX6_has_9, sX6_has_12, sX6_has_15, sX6_has_16, sX6_has_17, sX6_has_20, sX6_has_23, sX6_has_24, sX6_has_24t]; rfl
    · simp only [m, if_false, sX6_has_0, sX6_has_1, sX6_has_4, sX6_has_5, sX6_has_8, sX6_has_9, sX6_has_12, sX6_has_15, sX6_has_16, sX6_has_17, sX6_has_20, sX6_has_23, sX6_has_24, sX6_has_24t]; rfl
  · rw [if_neg q]
    refine ⟨h, ?_, c, frI.r⟩
    simp only [sX6_has_0, sX6_has_1, sX6_has_4, sX6_has_5, sX6_has_8, sX6_has_9, sX6_has_12, sX6_has_15, sX6_has_16, sX6_has_17, sX6_has_20, sX6_has_23, sX6_has_24, sX6_has_24t, c.1, gf_0, gf_1, gf_2, gf_3, gf_4, gf_5, pf_0, pf_1, pf_2, pf_3, pf_4, pf_5, List.set_cons_zero, List.set_cons_succ, bd_v, bi_v, Option.toList, List.cons_append, List.nil_append, List.length_cons, List.length_nil, Nat.reduceAdd, Nat.reduceLeDiff, ck_in, nI_add, nI_1, if_false, if_true, rFed_y c hn q, bd_x]
    rfl
theorem F_find (c : CI h b n (S, Sv, M, J, jl, nm)) (i : SI n (S, Sv, M, J, jl, nm)) : FR (cl 83 [.ref b] (h, z)) h b n z (opFind n (S, Sv, M, J, jl, nm)) := by
  have c : CC h b n S Sv M M J jl nm := c
  obtain ⟨f, c3, c3'⟩ := c.2.2.1
  have hl : nm.length ≤ 12 := i.2.2.2.1
  have hn : n ≤ 40 := i.1.2.2.2.1
  unfold opFind opQ
  rw [eX6_find]
  by_cases q : nzc M (64 * n) = 0 ∧ nm ≠ []
  · rw [if_pos q]
    have hs := c.2.2.2.2.1.sh (nzM q.1)
    have t := Shelf_numberOf (z := z) hs i.1 c3
    rw [← c3'] at t
    obtain ⟨h', k1, k2, k3⟩ := c.cl0
    refine ⟨h', ?_, k2, k3⟩
    simp only [sX6_find_0, sX6_find_1, sX6_find_4, sX6_find_5, sX6_find_8, sX6_find_9, sX6_find_12, sX6_find_15, sX6_find_16, sX6_find_17, sX6_find_20, sX6_find_23, sX6_find_24, c.1, c3.1, hs.head, gf_0, gf_1, gf_2, gf_3, gf_4, gf_5, pf_0, pf_1, pf_2, pf_3, pf_4, pf_5, List.set_cons_zero, List.set_cons_succ, bd_v, bi_v, Option.toList, List.cons_append, List.nil_append, List.length_cons, List.length_nil, Nat.reduceAdd, Nat.reduceLeDiff, ck_in, nI_add, nI_1, if_false, if_true, rFed_n c hn hl q, t, k1]
    rfl
  · rw [if_neg q]
    refine ⟨h, ?_, c, frI.r⟩
    simp only [sX6_find_0, sX6_find_1, sX6_find_4, sX6_find_5, sX6_find_8, sX6_find_9, sX6_find_12, sX6_find_15, sX6_find_16, sX6_find_17, sX6_find_20, sX6_find_23, sX6_find_24, c.1, gf_0, gf_1, gf_2, gf_3, gf_4, gf_5, pf_0, pf_1, pf_2, pf_3, pf_4, pf_5, List.set_cons_zero, List.set_cons_succ, bd_v, bi_v, Option.toList, List.cons_append, List.nil_append, List.length_cons, List.length_nil, Nat.reduceAdd, Nat.reduceLeDiff, ck_in, nI_add, nI_1, if_false, if_true, rFed_y c hn q, bd_x]
    rfl
theorem F_put (c : CI h b n (S, Sv, M, J, jl, nm)) (i : SI n (S, Sv, M, J, jl, nm)) (v : Int32) : FR (cl 78 [.ref b, .int v] (h, z)) h b n z (opPut n v (S, Sv, M, J, jl, nm)) := by
  have c : CC h b n S Sv M M J jl nm := c
  obtain ⟨f, c3, c3'⟩ := id c.2.2.1
  have hl : nm.length ≤ 12 := i.2.2.2.1
  have hn : n ≤ 40 := i.1.2.2.2.1
  have hj : jl ≤ 600 := i.2.2.1
  unfold opPut opQ
  rw [eX6_put]
  by_cases q : nzc M (64 * n) = 0 ∧ nm ≠ []
  · rw [if_pos q]
    have hs := c.2.2.2.2.1.sh (nzM q.1)
    have hr := Jr_hasRoom (z := z) c.2.1 hj c3
    dsimp only
    by_cases d : 600 < jl + (nm.length + 6)
    · rw [if_pos d] at hr ⊢
      have ac : cl 81 [.ref b, .int v] (h, z) = some (.inl (some (.int (-2))), (h, z)) := by
        rw [eX6_act]
        simp only [sX6_act_0, sX6_act_1, sX6_act_4, sX6_act_5, sX6_act_8, sX6_act_11, sX6_act_14, sX6_act_16, sX6_act_17, sX6_act_18, sX6_act_21, sX6_act_24, sX6_act_25, sX6_act_26, sX6_act_29, sX6_act_30, sX6_act_33, sX6_act_34, sX6_act_37, sX6_act_40, sX6_act_41, sX6_act_42, sX6_act_43, sX6_act_46, sX6_act_47, sX6_act_50, sX6_act_51, sX6_act_54, sX6_act_55, c.1, c.2.1.1, c3.1, gf_0, gf_1, gf_2, gf_3, gf_4, gf_5, pf_0, pf_1, pf_2, pf_3, pf_4, pf_5, List.set_cons_zero, List.set_cons_succ, bd_v, bi_v, Option.toList, List.cons_append, List.nil_append, List.length_cons, List.length_nil, Nat.reduceAdd, Nat.reduceLeDiff, ck_in, nI_add, nI_1, if_false, if_true, hr, not_true_eq_false]
      obtain ⟨h', k1, k2, k3⟩ := c.cl0
      refine ⟨h', ?_, k2, k3⟩
      simp only [sX6_put_0, sX6_put_1, sX6_put_4, sX6_put_5, sX6_put_6, sX6_put_9, sX6_put_10, sX6_put_11, sX6_put_14, sX6_put_17, sX6_put_18, c.1, c3.1, gf_0, gf_1, gf_2, gf_3, gf_4, gf_5, pf_0, pf_1, pf_2, pf_3, pf_4, pf_5, List.set_cons_zero, List.set_cons_succ, bd_v, bi_v, Option.toList, List.cons_append, List.nil_append, List.length_cons, List.length_nil, Nat.reduceAdd, Nat.reduceLeDiff, ck_in, nI_add, nI_1, if_false, if_true, rFed_n c hn hl q, ac, k1]
      rfl
    · rw [if_neg d] at hr ⊢
      have q1 : ¬ ((1 : Int32) = 0) := by decide
      have hac : cl 59 [.ref (b + 10)] (h, z) = some (.inl (some (.int (nI S.acts))), (h, z)) := by obtain ⟨tf, a1, -⟩ := hs; exact Shelf_acts a1
      obtain ⟨t1, t2⟩ := Shelf_accept (z := z) hs i.1 c3 (by omega) (by omega) (by omega) v
      rw [← c3'] at t1 t2
      cases ha : accept n nm v S with
      | none =>
        have ac : cl 81 [.ref b, .int v] (h, z) = some (.inl (some (.int (-1))), (h, z)) := by
          rw [eX6_act]
          simp only [sX6_act_0, sX6_act_1, sX6_act_4, sX6_act_5, sX6_act_8, sX6_act_11, sX6_act_14, sX6_act_16, sX6_act_17, sX6_act_18, sX6_act_21, sX6_act_24, sX6_act_25, sX6_act_26, sX6_act_29, sX6_act_30, sX6_act_33, sX6_act_34, sX6_act_37, sX6_act_40, sX6_act_41, sX6_act_42, sX6_act_43, sX6_act_46, sX6_act_47, sX6_act_50, sX6_act_51, sX6_act_54, sX6_act_55, c.1, c.2.1.1, c3.1, hs.head, gf_0, gf_1, gf_2, gf_3, gf_4, gf_5, pf_0, pf_1, pf_2, pf_3, pf_4, pf_5, List.set_cons_zero, List.set_cons_succ, bd_v, bi_v, Option.toList, List.cons_append, List.nil_append, List.length_cons, List.length_nil, Nat.reduceAdd, Nat.reduceLeDiff, ck_in, nI_add, nI_1, if_false, if_true, hr, q1, not_false_eq_true, hac, t1 ha, not_true_eq_false]
        obtain ⟨h', k1, k2, k3⟩ := c.cl0
        refine ⟨h', ?_, k2, k3⟩
        simp only [sX6_put_0, sX6_put_1, sX6_put_4, sX6_put_5, sX6_put_6, sX6_put_9, sX6_put_10, sX6_put_11, sX6_put_14, sX6_put_17, sX6_put_18, c.1, c3.1, gf_0, gf_1, gf_2, gf_3, gf_4, gf_5, pf_0, pf_1, pf_2, pf_3, pf_4, pf_5, List.set_cons_zero, List.set_cons_succ, bd_v, bi_v, Option.toList, List.cons_append, List.nil_append, List.length_cons, List.length_nil, Nat.reduceAdd, Nat.reduceLeDiff, ck_in, nI_add, nI_1, if_false, if_true, rFed_n c hn hl q, ac, k1]
        rfl
      | some S' =>
        obtain ⟨h1, y1, y2, y3⟩ := t2 S' ha
        have cc1 := c.l y3 (y2.lv (nzM q.1))
        obtain ⟨f1, d3, d3'⟩ := id cc1.2.2.1
        have ja := Jr_append (z := z) cc1.2.1 d3 (by omega) (by omega) (by omega) v
        rw [← d3'] at ja
        have cc2 := cc1.j (h' := am_up (am_up h1 (b + 1 + 2) (ints 600 (japp J jl nm v))) (b + 1) (obj 1 [.ref (b + 1 + 1), .int (nI (jl + (nm.length + 6)))])) ((frI.u (by omega) (by omega)).t (frI.u (by omega) (by omega))) ((cc1.2.1.row (japp J jl nm v)).cut (jl + (nm.length + 6)))
        have ac : cl 81 [.ref b, .int v] (h, z) = some (.inl (some (.int (nI S.acts))), (am_up (am_up h1 (b + 1 + 2) (ints 600 (japp J jl nm v))) (b + 1) (obj 1 [.ref (b + 1 + 1), .int (nI (jl + (nm.length + 6)))]), z)) := by
          rw [eX6_act]
          simp only [sX6_act_0, sX6_act_1, sX6_act_4, sX6_act_5, sX6_act_8, sX6_act_11, sX6_act_14, sX6_act_16, sX6_act_17, sX6_act_18, sX6_act_21, sX6_act_24, sX6_act_25, sX6_act_26, sX6_act_29, sX6_act_30, sX6_act_33, sX6_act_34, sX6_act_37, sX6_act_40, sX6_act_41, sX6_act_42, sX6_act_43, sX6_act_46, sX6_act_47, sX6_act_50, sX6_act_51, sX6_act_54, sX6_act_55, c.1, c.2.1.1, c3.1, hs.head, gf_0, gf_1, gf_2, gf_3, gf_4, gf_5, pf_0, pf_1, pf_2, pf_3, pf_4, pf_5, List.set_cons_zero, List.set_cons_succ, bd_v, bi_v, Option.toList, List.cons_append, List.nil_append, List.length_cons, List.length_nil, Nat.reduceAdd, Nat.reduceLeDiff, ck_in, nI_add, nI_1, if_false, if_true, hr, q1, not_false_eq_true, hac, y1, cc1.1, cc1.2.1.1, d3.1, ja]
        obtain ⟨h', k1, k2, k3⟩ := cc2.cl0
        obtain ⟨f2, g3, -⟩ := id cc2.2.2.1
        refine ⟨h', ?_, k2, ?_⟩
        · simp only [sX6_put_0, sX6_put_1, sX6_put_4, sX6_put_5, sX6_put_6, sX6_put_9, sX6_put_10, sX6_put_11, sX6_put_14, sX6_put_17, sX6_put_18, c.1, gf_0, gf_1, gf_2, gf_3, gf_4, gf_5, pf_0, pf_1, pf_2, pf_3, pf_4, pf_5, List.set_cons_zero, List.set_cons_succ, bd_v, bi_v, Option.toList, List.cons_append, List.nil_append, List.length_cons, List.length_nil, Nat.reduceAdd, Nat.reduceLeDiff, ck_in, nI_add, nI_1, if_false, if_true, rFed_n c hn hl q, ac, cc2.1, g3.1, k1]
          rfl
        · exact ((y3.w (by omega) (by omega)).t ((frI.u (by omega) (by omega)).t (frI.u (by omega) (by omega)))).t k3
  · rw [if_neg q]
    refine ⟨h, ?_, c, frI.r⟩
    simp only [sX6_put_0, sX6_put_1, sX6_put_4, sX6_put_5, sX6_put_6, sX6_put_9, sX6_put_10, sX6_put_11, sX6_put_14, sX6_put_17, sX6_put_18, c.1, gf_0, gf_1, gf_2, gf_3, gf_4, gf_5, pf_0, pf_1, pf_2, pf_3, pf_4, pf_5, List.set_cons_zero, List.set_cons_succ, bd_v, bi_v, Option.toList, List.cons_append, List.nil_append, List.length_cons, List.length_nil, Nat.reduceAdd, Nat.reduceLeDiff, ck_in, nI_add, nI_1, if_false, if_true, rFed_y c hn q, bd_x]
    rfl
end
