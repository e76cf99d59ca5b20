/-! the law: the object's calls as it wraps them -/
theorem thL_feed_0 (w0 w1 w2 w3 : Value) (σ : am_S) : am_th 124 4 [w0, w1, w2, w3] 0 σ = rn 124 20 [w0, w1, w2, am_jk] [] σ := th_of (by rw [show am_hh 124 = [(0, 16, 19, 13)] from rfl]; exact ct_n ⟨by decide, by decide⟩ (show am_xT.lookup (am_own 124, 13) = some 0 from rfl) (show decode (am_cod 124) 19 = .ok (.astore_n 3, 1) from dL_feed_19) (show 3 < 4 by decide))
theorem thL_put_1 (w0 w1 w2 w3 : Value) (σ : am_S) : am_th 125 4 [w0, w1, w2, w3] 1 σ = rn 125 13 [w0, w1, w2, am_jk] [] σ := th_of (by rw [show am_hh 125 = [(0, 9, 12, 19)] from rfl]; exact ct_n ⟨by decide, by decide⟩ (show am_xT.lookup (am_own 125, 19) = some 1 from rfl) (show decode (am_cod 125) 12 = .ok (.astore_n 3, 1) from dL_put_12) (show 3 < 4 by decide))
theorem thL_has_1 (w0 w1 w2 : Value) (σ : am_S) : am_th 126 3 [w0, w1, w2] 1 σ = rn 126 19 [w0, w1, am_jk] [] σ := th_of (by rw [show am_hh 126 = [(0, 15, 18, 19)] from rfl]; exact ct_n ⟨by decide, by decide⟩ (show am_xT.lookup (am_own 126, 19) = some 1 from rfl) (show decode (am_cod 126) 18 = .ok (.astore_n 2, 1) from dL_has_18) (show 2 < 3 by decide))
theorem thL_find_1 (w0 w1 w2 : Value) (σ : am_S) : am_th 127 3 [w0, w1, w2] 1 σ = rn 127 12 [w0, w1, am_jk] [] σ := th_of (by rw [show am_hh 127 = [(0, 8, 11, 19)] from rfl]; exact ct_n ⟨by decide, by decide⟩ (show am_xT.lookup (am_own 127, 19) = some 1 from rfl) (show decode (am_cod 127) 11 = .ok (.astore_n 2, 1) from dL_find_11) (show 2 < 3 by decide))
theorem thL_save_1 (w0 w1 w2 : Value) (σ : am_S) : am_th 128 3 [w0, w1, w2] 1 σ = rn 128 12 [w0, w1, am_jk] [] σ := th_of (by rw [show am_hh 128 = [(0, 8, 11, 19)] from rfl]; exact ct_n ⟨by decide, by decide⟩ (show am_xT.lookup (am_own 128, 19) = some 1 from rfl) (show decode (am_cod 128) 11 = .ok (.astore_n 2, 1) from dL_save_11) (show 2 < 3 by decide))
theorem thL_crash_0 (w0 w1 w2 w3 : Value) (σ : am_S) : am_th 129 4 [w0, w1, w2, w3] 0 σ = rn 129 13 [w0, w1, w2, am_jk] [] σ := th_of (by rw [show am_hh 129 = [(0, 9, 12, 13)] from rfl]; exact ct_n ⟨by decide, by decide⟩ (show am_xT.lookup (am_own 129, 13) = some 0 from rfl) (show decode (am_cod 129) 12 = .ok (.astore_n 3, 1) from dL_crash_12) (show 3 < 4 by decide))
theorem thL_byteAt_2 (w0 w1 w2 w3 w4 : Value) (σ : am_S) : am_th 132 5 [w0, w1, w2, w3, w4] 2 σ = rn 132 15 [w0, w1, w2, w3, am_jk] [] σ := th_of (by rw [show am_hh 132 = [(0, 10, 13, 39)] from rfl]; exact ct_w ⟨by decide, by decide⟩ (show am_xT.lookup (am_own 132, 39) = some 2 from rfl) (show decode (am_cod 132) 13 = .ok (.astore 4, 2) from dL_byteAt_13) (show 4 < 5 by decide))
theorem thL_entry_2 (w0 w1 w2 w3 : Value) (σ : am_S) : am_th 133 4 [w0, w1, w2, w3] 2 σ = rn 133 13 [w0, w1, w2, am_jk] [] σ := th_of (by rw [show am_hh 133 = [(0, 9, 12, 39)] from rfl]; exact ct_n ⟨by decide, by decide⟩ (show am_xT.lookup (am_own 133, 39) = some 2 from rfl) (show decode (am_cod 133) 12 = .ok (.astore_n 3, 1) from dL_entry_12) (show 3 < 4 by decide))
theorem thL_count_1 (w0 w1 w2 w3 : Value) (σ : am_S) : am_th 134 4 [w0, w1, w2, w3] 1 σ = rn 134 13 [w0, w1, w2, am_jk] [] σ := th_of (by rw [show am_hh 134 = [(0, 9, 12, 19)] from rfl]; exact ct_n ⟨by decide, by decide⟩ (show am_xT.lookup (am_own 134, 19) = some 1 from rfl) (show decode (am_cod 134) 12 = .ok (.astore_n 3, 1) from dL_count_12) (show 3 < 4 by decide))
theorem thL_poke_2 (w0 w1 w2 w3 w4 : Value) (σ : am_S) : am_th 130 4 [w0, w1, w2, w3, w4] 2 σ = rn 130 12 [w0, w1, w2, w3, am_jk] [] σ := th_of (by rw [show am_hh 130 = [(0, 7, 10, 39), (0, 7, 14, 13)] from rfl]; exact ct_w ⟨by decide, by decide⟩ (show am_xT.lookup (am_own 130, 39) = some 2 from rfl) (show decode (am_cod 130) 10 = .ok (.astore 4, 2) from dL_poke_10) (show 4 < 5 by decide))
theorem thL_poke_0 (w0 w1 w2 w3 w4 : Value) (σ : am_S) : am_th 130 4 [w0, w1, w2, w3, w4] 0 σ = rn 130 16 [w0, w1, w2, w3, am_jk] [] σ := th_of (by rw [show am_hh 130 = [(0, 7, 10, 39), (0, 7, 14, 13)] from rfl]; refine (ct_s ⟨by decide, by decide⟩ (show am_xT.lookup (am_own 130, 39) = some 2 from rfl) (by decide)).trans ?_; exact ct_w ⟨by decide, by decide⟩ (show am_xT.lookup (am_own 130, 13) = some 0 from rfl) (show decode (am_cod 130) 14 = .ok (.astore 4, 2) from dL_poke_14) (show 4 < 5 by decide))
theorem thL_pokeJournal_2 (w0 w1 w2 w3 : Value) (σ : am_S) : am_th 131 3 [w0, w1, w2, w3] 2 σ = rn 131 10 [w0, w1, w2, am_jk] [] σ := th_of (by rw [show am_hh 131 = [(0, 6, 9, 39), (0, 6, 12, 13)] from rfl]; exact ct_n ⟨by decide, by decide⟩ (show am_xT.lookup (am_own 131, 39) = some 2 from rfl) (show decode (am_cod 131) 9 = .ok (.astore_n 3, 1) from dL_pokeJournal_9) (show 3 < 4 by decide))
theorem thL_pokeJournal_0 (w0 w1 w2 w3 : Value) (σ : am_S) : am_th 131 3 [w0, w1, w2, w3] 0 σ = rn 131 13 [w0, w1, w2, am_jk] [] σ := th_of (by rw [show am_hh 131 = [(0, 6, 9, 39), (0, 6, 12, 13)] from rfl]; refine (ct_s ⟨by decide, by decide⟩ (show am_xT.lookup (am_own 131, 39) = some 2 from rfl) (by decide)).trans ?_; exact ct_n ⟨by decide, by decide⟩ (show am_xT.lookup (am_own 131, 13) = some 0 from rfl) (show decode (am_cod 131) 12 = .ok (.astore_n 3, 1) from dL_pokeJournal_12) (show 3 < 4 by decide))
section
variable {h : Nat → Option va_E} {z : Nat × Nat × Nat} {x n out : Nat} {f : Nat → Int64} {σ : St}
theorem W_feed (c : CI h x n σ) (i : SI n σ) (ho : h out = some (.inl (2, 1, .inr (.inl f)))) (hn : out < x ∨ x + 27 + 6 * n ≤ out) (v : Int32) : LR (cl 124 [.ref x, .int v, .ref out] (h, z)) h x n out z k1 gb (opFeed v σ) := by
  obtain ⟨S, Sv, M, J, jl, nm⟩ := σ
  obtain ⟨h', e, c', fr⟩ := F_feed (z := z) c i v
  have ho' : h' out = some (.inl (2, 1, .inr (.inl f))) := (fr out hn).trans ho
  have c1 := c.1
  cases hO : opFeed v (S, Sv, M, J, jl, nm) with
  | mk r s' =>
  rw [hO] at e c'
  cases r with
  | inl q =>
    dsimp only [ov, zt] at e
    by_cases hq : q = 0
    · refine lr_v (f := f) (w := 0) hn c' fr (by unfold gb; rw [if_pos hq]) ?_
      rw [eL_feed]
      simp only [sL_feed_0, sL_feed_1, sL_feed_2, sL_feed_3, sL_feed_4, sL_feed_7, sL_feed_10, sL_feed_11, sL_feed_14, sL_feed_15, sL_feed_16, sL_feed_19, sL_feed_20, sL_feed_21, sL_feed_22, sL_feed_23, bd_v, bi_v, Option.toList, List.cons_append, List.nil_append, List.length_cons, List.length_nil, Nat.reduceAdd, Nat.reduceLeDiff, ck_in, nI_add, nI_1, if_false, if_true, c1, e, bh_v, ho', ls_0, cl0, eq_true hq]
    · refine lr_v (f := f) (w := 1) hn c' fr (by unfold gb; rw [if_neg hq]) ?_
      rw [eL_feed]
      simp only [sL_feed_0, sL_feed_1, sL_feed_2, sL_feed_3, sL_feed_4, sL_feed_7, sL_feed_10, sL_feed_11, sL_feed_14, sL_feed_15, sL_feed_16, sL_feed_19, sL_feed_20, sL_feed_21, sL_feed_22, sL_feed_23, bd_v, bi_v, Option.toList, List.cons_append, List.nil_append, List.length_cons, List.length_nil, Nat.reduceAdd, Nat.reduceLeDiff, ck_in, nI_add, nI_1, if_false, if_true, c1, e, bh_v, ho', ls_0, cl0, eq_false hq]
  | inr E =>
    dsimp only [ov, zt] at e
    cases opFeed_E hO
    refine lr_x hn ho c' fr ?_
    rw [eL_feed]
    simp only [sL_feed_0, sL_feed_1, sL_feed_2, sL_feed_3, sL_feed_4, sL_feed_7, sL_feed_10, sL_feed_11, sL_feed_14, sL_feed_15, sL_feed_16, sL_feed_19, sL_feed_20, sL_feed_21, sL_feed_22, sL_feed_23, bd_v, bi_v, Option.toList, List.cons_append, List.nil_append, List.length_cons, List.length_nil, Nat.reduceAdd, Nat.reduceLeDiff, ck_in, nI_add, nI_1, if_false, if_true, c1, e, bh_x, thL_feed_0, k1]
theorem W_put (c : CI h x n σ) (i : SI n σ) (ho : h out = some (.inl (2, 1, .inr (.inl f)))) (hn : out < x ∨ x + 27 + 6 * n ≤ out) (v : Int32) : LR (cl 125 [.ref x, .int v, .ref out] (h, z)) h x n out z k1 gl (opPut n v σ) := by
  obtain ⟨S, Sv, M, J, jl, nm⟩ := σ
  obtain ⟨h', e, c', fr⟩ := F_put (z := z) c i v
  have ho' : h' out = some (.inl (2, 1, .inr (.inl f))) := (fr out hn).trans ho
  have c1 := c.1
  cases hO : opPut n v (S, Sv, M, J, jl, nm) with
  | mk r s' =>
  rw [hO] at e c'
  cases r with
  | inl q =>
    dsimp only [ov, zt] at e
    refine lr_v (f := f) (w := q.toInt64) hn c' fr rfl ?_
    rw [eL_put]
    simp only [sL_put_0, sL_put_1, sL_put_2, sL_put_3, sL_put_4, sL_put_7, sL_put_8, sL_put_9, sL_put_12, sL_put_13, sL_put_14, sL_put_15, sL_put_16, bd_v, bi_v, Option.toList, List.cons_append, List.nil_append, List.length_cons, List.length_nil, Nat.reduceAdd, Nat.reduceLeDiff, ck_in, nI_add, nI_1, if_false, if_true, c1, e, bh_v, ho', ls_0, cl0]
  | inr E =>
    dsimp only [ov, zt] at e
    cases opPut_E hO
    refine lr_x hn ho c' fr ?_
    rw [eL_put]
    simp only [sL_put_0, sL_put_1, sL_put_2, sL_put_3, sL_put_4, sL_put_7, sL_put_8, sL_put_9, sL_put_12, sL_put_13, sL_put_14, sL_put_15, sL_put_16, bd_v, bi_v, Option.toList, List.cons_append, List.nil_append, List.length_cons, List.length_nil, Nat.reduceAdd, Nat.reduceLeDiff, ck_in, nI_add, nI_1, if_false, if_true, c1, e, bh_x, thL_put_1, k1]
theorem W_has (c : CI h x n σ) (i : SI n σ) (ho : h out = some (.inl (2, 1, .inr (.inl f)))) (hn : out < x ∨ x + 27 + 6 * n ≤ out) : LR (cl 126 [.ref x, .ref out] (h, z)) h x n out z k1 gb (opHas n σ) := by
  obtain ⟨S, Sv, M, J, jl, nm⟩ := σ
  obtain ⟨h', e, c', fr⟩ := F_has (z := z) c i 
  have ho' : h' out = some (.inl (2, 1, .inr (.inl f))) := (fr out hn).trans ho
  have c1 := c.1
  cases hO : opHas n (S, Sv, M, J, jl, nm) with
  | mk r s' =>
  rw [hO] at e c'
  cases r with
  | inl q =>
    dsimp only [ov, zt] at e
    by_cases hq : q = 0
    · refine lr_v (f := f) (w := 0) hn c' fr (by unfold gb; rw [if_pos hq]) ?_
      rw [eL_has]
      simp only [sL_has_0, sL_has_1, sL_has_2, sL_has_3, sL_has_6, sL_has_9, sL_has_10, sL_has_13, sL_has_14, sL_has_15, sL_has_18, sL_has_19, sL_has_20, sL_has_21, sL_has_22, bd_v, bi_v, Option.toList, List.cons_append, List.nil_append, List.length_cons, List.length_nil, Nat.reduceAdd, Nat.reduceLeDiff, ck_in, nI_add, nI_1, if_false, if_true, c1, e, bh_v, ho', ls_0, cl0, eq_true hq]
    · refine lr_v (f := f) (w := 1) hn c' fr (by unfold gb; rw [if_neg hq]) ?_
      rw [eL_has]
      simp only [sL_has_0, sL_has_1, sL_has_2, sL_has_3, sL_has_6, sL_has_9, sL_has_10, sL_has_13, sL_has_14, sL_has_15, sL_has_18, sL_has_19, sL_has_20, sL_has_21, sL_has_22, bd_v, bi_v, Option.toList, List.cons_append, List.nil_append, List.length_cons, List.length_nil, Nat.reduceAdd, Nat.reduceLeDiff, ck_in, nI_add, nI_1, if_false, if_true, c1, e, bh_v, ho', ls_0, cl0, eq_false hq]
  | inr E =>
    dsimp only [ov, zt] at e
    cases opHas_E hO
    refine lr_x hn ho c' fr ?_
    rw [eL_has]
    simp only [sL_has_0, sL_has_1, sL_has_2, sL_has_3, sL_has_6, sL_has_9, sL_has_10, sL_has_13, sL_has_14, sL_has_15, sL_has_18, sL_has_19, sL_has_20, sL_has_21, sL_has_22, bd_v, bi_v, Option.toList, List.cons_append, List.nil_append, List.length_cons, List.length_nil, Nat.reduceAdd, Nat.reduceLeDiff, ck_in, nI_add, nI_1, if_false, if_true, c1, e, bh_x, thL_has_1, k1]
theorem W_find (c : CI h x n σ) (i : SI n σ) (ho : h out = some (.inl (2, 1, .inr (.inl f)))) (hn : out < x ∨ x + 27 + 6 * n ≤ out) : LR (cl 127 [.ref x, .ref out] (h, z)) h x n out z k1 gl (opFind n σ) := by
  obtain ⟨S, Sv, M, J, jl, nm⟩ := σ
  obtain ⟨h', e, c', fr⟩ := F_find (z := z) c i 
  have ho' : h' out = some (.inl (2, 1, .inr (.inl f))) := (fr out hn).trans ho
  have c1 := c.1
  cases hO : opFind n (S, Sv, M, J, jl, nm) with
  | mk r s' =>
  rw [hO] at e c'
  cases r with
  | inl q =>
    dsimp only [ov, zt] at e
    refine lr_v (f := f) (w := q.toInt64) hn c' fr rfl ?_
    rw [eL_find]
    simp only [sL_find_0, sL_find_1, sL_find_2, sL_find_3, sL_find_6, sL_find_7, sL_find_8, sL_find_11, sL_find_12, sL_find_13, sL_find_14, sL_find_15, bd_v, bi_v, Option.toList, List.cons_append, List.nil_append, List.length_cons, List.length_nil, Nat.reduceAdd, Nat.reduceLeDiff, ck_in, nI_add, nI_1, if_false, if_true, c1, e, bh_v, ho', ls_0, cl0]
  | inr E =>
    dsimp only [ov, zt] at e
    cases opFind_E hO
    refine lr_x hn ho c' fr ?_
    rw [eL_find]
    simp only [sL_find_0, sL_find_1, sL_find_2, sL_find_3, sL_find_6, sL_find_7, sL_find_8, sL_find_11, sL_find_12, sL_find_13, sL_find_14, sL_find_15, bd_v, bi_v, Option.toList, List.cons_append, List.nil_append, List.length_cons, List.length_nil, Nat.reduceAdd, Nat.reduceLeDiff, ck_in, nI_add, nI_1, if_false, if_true, c1, e, bh_x, thL_find_1, k1]
theorem W_save (c : CI h x n σ) (i : SI n σ) (ho : h out = some (.inl (2, 1, .inr (.inl f)))) (hn : out < x ∨ x + 27 + 6 * n ≤ out) : LR (cl 128 [.ref x, .ref out] (h, z)) h x n out z k1 gl (opSave n σ) := by
  obtain ⟨S, Sv, M, J, jl, nm⟩ := σ
  obtain ⟨h', e, c', fr⟩ := F_save (z := z) c i 
  have ho' : h' out = some (.inl (2, 1, .inr (.inl f))) := (fr out hn).trans ho
  have c1 := c.1
  cases hO : opSave n (S, Sv, M, J, jl, nm) with
  | mk r s' =>
  rw [hO] at e c'
  cases r with
  | inl q =>
    dsimp only [ov, zt] at e
    refine lr_v (f := f) (w := q.toInt64) hn c' fr rfl ?_
    rw [eL_save]
    simp only [sL_save_0, sL_save_1, sL_save_2, sL_save_3, sL_save_6, sL_save_7, sL_save_8, sL_save_11, sL_save_12, sL_save_13, sL_save_14, sL_save_15, bd_v, bi_v, Option.toList, List.cons_append, List.nil_append, List.length_cons, List.length_nil, Nat.reduceAdd, Nat.reduceLeDiff, ck_in, nI_add, nI_1, if_false, if_true, c1, e, bh_v, ho', ls_0, cl0]
  | inr E =>
    dsimp only [ov, zt] at e
    cases opSave_E hO
    refine lr_x hn ho c' fr ?_
    rw [eL_save]
    simp only [sL_save_0, sL_save_1, sL_save_2, sL_save_3, sL_save_6, sL_save_7, sL_save_8, sL_save_11, sL_save_12, sL_save_13, sL_save_14, sL_save_15, bd_v, bi_v, Option.toList, List.cons_append, List.nil_append, List.length_cons, List.length_nil, Nat.reduceAdd, Nat.reduceLeDiff, ck_in, nI_add, nI_1, if_false, if_true, c1, e, bh_x, thL_save_1, k1]
theorem W_crash (c : CI h x n σ) (i : SI n σ) (ho : h out = some (.inl (2, 1, .inr (.inl f)))) (hn : out < x ∨ x + 27 + 6 * n ≤ out) (v : Int32) : LR (cl 129 [.ref x, .int v, .ref out] (h, z)) h x n out z k1 gl (opCrash n v σ) := by
  obtain ⟨S, Sv, M, J, jl, nm⟩ := σ
  obtain ⟨h', e, c', fr⟩ := F_crash (z := z) c i v
  have ho' : h' out = some (.inl (2, 1, .inr (.inl f))) := (fr out hn).trans ho
  have c1 := c.1
  cases hO : opCrash n v (S, Sv, M, J, jl, nm) with
  | mk r s' =>
  rw [hO] at e c'
  cases r with
  | inl q =>
    dsimp only [ov, zt] at e
    refine lr_v (f := f) (w := q.toInt64) hn c' fr rfl ?_
    rw [eL_crash]
    simp only [sL_crash_0, sL_crash_1, sL_crash_2, sL_crash_3, sL_crash_4, sL_crash_7, sL_crash_8, sL_crash_9, sL_crash_12, sL_crash_13, sL_crash_14, sL_crash_15, sL_crash_16, bd_v, bi_v, Option.toList, List.cons_append, List.nil_append, List.length_cons, List.length_nil, Nat.reduceAdd, Nat.reduceLeDiff, ck_in, nI_add, nI_1, if_false, if_true, c1, e, bh_v, ho', ls_0, cl0]
  | inr E =>
    dsimp only [ov, zt] at e
    cases opCrash_E hO
    refine lr_x hn ho c' fr ?_
    rw [eL_crash]
    simp only [sL_crash_0, sL_crash_1, sL_crash_2, sL_crash_3, sL_crash_4, sL_crash_7, sL_crash_8, sL_crash_9, sL_crash_12, sL_crash_13, sL_crash_14, sL_crash_15, sL_crash_16, bd_v, bi_v, Option.toList, List.cons_append, List.nil_append, List.length_cons, List.length_nil, Nat.reduceAdd, Nat.reduceLeDiff, ck_in, nI_add, nI_1, if_false, if_true, c1, e, bh_x, thL_crash_0, k1]
theorem W_byte (c : CI h x n σ) (i : SI n σ) (ho : h out = some (.inl (2, 1, .inr (.inl f)))) (hn : out < x ∨ x + 27 + 6 * n ≤ out) (v v2 : Int32) : LR (cl 132 [.ref x, .int v, .int v2, .ref out] (h, z)) h x n out z k1 gl (opByte n v v2 σ) := by
  obtain ⟨S, Sv, M, J, jl, nm⟩ := σ
  obtain ⟨h', e, c', fr⟩ := F_byteAt (z := z) c i v v2
  have ho' : h' out = some (.inl (2, 1, .inr (.inl f))) := (fr out hn).trans ho
  have c1 := c.1
  cases hO : opByte n v v2 (S, Sv, M, J, jl, nm) with
  | mk r s' =>
  rw [hO] at e c'
  cases r with
  | inl q =>
    dsimp only [ov, zt] at e
    refine lr_v (f := f) (w := q.toInt64) hn c' fr rfl ?_
    rw [eL_byteAt]
    simp only [sL_byteAt_0, sL_byteAt_1, sL_byteAt_2, sL_byteAt_3, sL_byteAt_4, sL_byteAt_5, sL_byteAt_8, sL_byteAt_9, sL_byteAt_10, sL_byteAt_13, sL_byteAt_15, sL_byteAt_16, sL_byteAt_17, sL_byteAt_18, bd_v, bi_v, Option.toList, List.cons_append, List.nil_append, List.length_cons, List.length_nil, Nat.reduceAdd, Nat.reduceLeDiff, ck_in, nI_add, nI_1, if_false, if_true, c1, e, bh_v, ho', ls_0, cl0]
  | inr E =>
    dsimp only [ov, zt] at e
    cases opByte_E hO
    refine lr_x hn ho c' fr ?_
    rw [eL_byteAt]
    simp only [sL_byteAt_0, sL_byteAt_1, sL_byteAt_2, sL_byteAt_3, sL_byteAt_4, sL_byteAt_5, sL_byteAt_8, sL_byteAt_9, sL_byteAt_10, sL_byteAt_13, sL_byteAt_15, sL_byteAt_16, sL_byteAt_17, sL_byteAt_18, bd_v, bi_v, Option.toList, List.cons_append, List.nil_append, List.length_cons, List.length_nil, Nat.reduceAdd, Nat.reduceLeDiff, ck_in, nI_add, nI_1, if_false, if_true, c1, e, bh_x, thL_byteAt_2, k1]
theorem W_entry (c : CI h x n σ) (i : SI n σ) (ho : h out = some (.inl (2, 1, .inr (.inl f)))) (hn : out < x ∨ x + 27 + 6 * n ≤ out) (v : Int32) : LR (cl 133 [.ref x, .int v, .ref out] (h, z)) h x n out z k1 gl (opEntry v σ) := by
  obtain ⟨S, Sv, M, J, jl, nm⟩ := σ
  obtain ⟨h', e, c', fr⟩ := F_entry (z := z) c i v
  have ho' : h' out = some (.inl (2, 1, .inr (.inl f))) := (fr out hn).trans ho
  have c1 := c.1
  cases hO : opEntry v (S, Sv, M, J, jl, nm) with
  | mk r s' =>
  rw [hO] at e c'
  cases r with
  | inl q =>
    dsimp only [ov, zt] at e
    refine lr_v (f := f) (w := q.toInt64) hn c' fr rfl ?_
    rw [eL_entry]
    simp only [sL_entry_0, sL_entry_1, sL_entry_2, sL_entry_3, sL_entry_4, sL_entry_7, sL_entry_8, sL_entry_9, sL_entry_12, sL_entry_13, sL_entry_14, sL_entry_15, sL_entry_16, bd_v, bi_v, Option.toList, List.cons_append, List.nil_append, List.length_cons, List.length_nil, Nat.reduceAdd, Nat.reduceLeDiff, ck_in, nI_add, nI_1, if_false, if_true, c1, e, bh_v, ho', ls_0, cl0]
  | inr E =>
    dsimp only [ov, zt] at e
    cases opEntry_E hO
    refine lr_x hn ho c' fr ?_
    rw [eL_entry]
    simp only [sL_entry_0, sL_entry_1, sL_entry_2, sL_entry_3, sL_entry_4, sL_entry_7, sL_entry_8, sL_entry_9, sL_entry_12, sL_entry_13, sL_entry_14, sL_entry_15, sL_entry_16, bd_v, bi_v, Option.toList, List.cons_append, List.nil_append, List.length_cons, List.length_nil, Nat.reduceAdd, Nat.reduceLeDiff, ck_in, nI_add, nI_1, if_false, if_true, c1, e, bh_x, thL_entry_2, k1]
theorem W_count (c : CI h x n σ) (i : SI n σ) (ho : h out = some (.inl (2, 1, .inr (.inl f)))) (hn : out < x ∨ x + 27 + 6 * n ≤ out) (v : Int32) : LR (cl 134 [.ref x, .int v, .ref out] (h, z)) h x n out z k1 gl (opCount n v σ) := by
  obtain ⟨S, Sv, M, J, jl, nm⟩ := σ
  obtain ⟨h', e, c', fr⟩ := F_count (z := z) c i v
  have ho' : h' out = some (.inl (2, 1, .inr (.inl f))) := (fr out hn).trans ho
  have c1 := c.1
  cases hO : opCount n v (S, Sv, M, J, jl, nm) with
  | mk r s' =>
  rw [hO] at e c'
  cases r with
  | inl q =>
    dsimp only [ov, zt] at e
    refine lr_v (f := f) (w := q.toInt64) hn c' fr rfl ?_
    rw [eL_count]
    simp only [sL_count_0, sL_count_1, sL_count_2, sL_count_3, sL_count_4, sL_count_7, sL_count_8, sL_count_9, sL_count_12, sL_count_13, sL_count_14, sL_count_15, sL_count_16, bd_v, bi_v, Option.toList, List.cons_append, List.nil_append, List.length_cons, List.length_nil, Nat.reduceAdd, Nat.reduceLeDiff, ck_in, nI_add, nI_1, if_false, if_true, c1, e, bh_v, ho', ls_0, cl0]
  | inr E =>
    dsimp only [ov, zt] at e
    cases opCount_E hO
    refine lr_x hn ho c' fr ?_
    rw [eL_count]
    simp only [sL_count_0, sL_count_1, sL_count_2, sL_count_3, sL_count_4, sL_count_7, sL_count_8, sL_count_9, sL_count_12, sL_count_13, sL_count_14, sL_count_15, sL_count_16, bd_v, bi_v, Option.toList, List.cons_append, List.nil_append, List.length_cons, List.length_nil, Nat.reduceAdd, Nat.reduceLeDiff, ck_in, nI_add, nI_1, if_false, if_true, c1, e, bh_x, thL_count_1, k1]
theorem W_poke (c : CI h x n σ) (i : SI n σ) (v v2 v3 : Int32) : LRv (cl 130 [.ref x, .int v, .int v2, .int v3] (h, z)) h x n z k2 (opPoke n v v2 v3 σ) := by
  obtain ⟨S, Sv, M, J, jl, nm⟩ := σ
  obtain ⟨h', e, c', fr⟩ := F_poke (z := z) c i v v2 v3
  have c1 := c.1
  cases hO : opPoke n v v2 v3 (S, Sv, M, J, jl, nm) with
  | mk r s' =>
  rw [hO] at e c'
  cases r with
  | inl q =>
    dsimp only [ovv, zt] at e
    refine lrv_v c' fr ?_
    rw [eL_poke]
    simp only [sL_poke_0, sL_poke_1, sL_poke_2, sL_poke_3, sL_poke_4, sL_poke_7, sL_poke_10, sL_poke_12, sL_poke_13, sL_poke_14, sL_poke_16, sL_poke_17, sL_poke_18, sL_poke_19, bd_v, bi_v, Option.toList, List.cons_append, List.nil_append, List.length_cons, List.length_nil, Nat.reduceAdd, Nat.reduceLeDiff, ck_in, nI_add, nI_1, if_false, if_true, c1, e, bh_v]
  | inr E =>
    dsimp only [ovv, zt] at e
    rcases opPoke_E hO with hE | hE
    · subst hE
      refine lrv_x c' fr ?_
      rw [eL_poke]
      simp only [sL_poke_0, sL_poke_1, sL_poke_2, sL_poke_3, sL_poke_4, sL_poke_7, sL_poke_10, sL_poke_12, sL_poke_13, sL_poke_14, sL_poke_16, sL_poke_17, sL_poke_18, sL_poke_19, bd_v, bi_v, Option.toList, List.cons_append, List.nil_append, List.length_cons, List.length_nil, Nat.reduceAdd, Nat.reduceLeDiff, ck_in, nI_add, nI_1, if_false, if_true, c1, e, bh_x, thL_poke_2, k2]
    · subst hE
      refine lrv_x c' fr ?_
      rw [eL_poke, show k2 0 = 2 from rfl]
      simp only [sL_poke_0, sL_poke_1, sL_poke_2, sL_poke_3, sL_poke_4, sL_poke_7, sL_poke_10, sL_poke_12, sL_poke_13, sL_poke_14, sL_poke_16, sL_poke_17, sL_poke_18, sL_poke_19, bd_v, bi_v, Option.toList, List.cons_append, List.nil_append, List.length_cons, List.length_nil, Nat.reduceAdd, Nat.reduceLeDiff, ck_in, nI_add, nI_1, if_false, if_true, c1, e, bh_x, thL_poke_0]
theorem W_pokeJ (c : CI h x n σ) (v v2 : Int32) : LRv (cl 131 [.ref x, .int v, .int v2] (h, z)) h x n z k2 (opPokeJ v v2 σ) := by
  obtain ⟨S, Sv, M, J, jl, nm⟩ := σ
  obtain ⟨h', e, c', fr⟩ := F_pokeJ (z := z) c v v2
  have c1 := c.1
  cases hO : opPokeJ v v2 (S, Sv, M, J, jl, nm) with
  | mk r s' =>
  rw [hO] at e c'
  cases r with
  | inl q =>
    dsimp only [ovv, zt] at e
    refine lrv_v c' fr ?_
    rw [eL_pokeJournal]
    simp only [sL_pokeJournal_0, sL_pokeJournal_1, sL_pokeJournal_2, sL_pokeJournal_3, sL_pokeJournal_6, sL_pokeJournal_9, sL_pokeJournal_10, sL_pokeJournal_11, sL_pokeJournal_12, sL_pokeJournal_13, sL_pokeJournal_14, sL_pokeJournal_15, sL_pokeJournal_16, bd_v, bi_v, Option.toList, List.cons_append, List.nil_append, List.length_cons, List.length_nil, Nat.reduceAdd, Nat.reduceLeDiff, ck_in, nI_add, nI_1, if_false, if_true, c1, e, bh_v]
  | inr E =>
    dsimp only [ovv, zt] at e
    rcases opPokeJ_E hO with hE | hE
    · subst hE
      refine lrv_x c' fr ?_
      rw [eL_pokeJournal]
      simp only [sL_pokeJournal_0, sL_pokeJournal_1, sL_pokeJournal_2, sL_pokeJournal_3, sL_pokeJournal_6, sL_pokeJournal_9, sL_pokeJournal_10, sL_pokeJournal_11, sL_pokeJournal_12, sL_pokeJournal_13, sL_pokeJournal_14, sL_pokeJournal_15, sL_pokeJournal_16, bd_v, bi_v, Option.toList, List.cons_append, List.nil_append, List.length_cons, List.length_nil, Nat.reduceAdd, Nat.reduceLeDiff, ck_in, nI_add, nI_1, if_false, if_true, c1, e, bh_x, thL_pokeJournal_2, k2]
    · subst hE
      refine lrv_x c' fr ?_
      rw [eL_pokeJournal, show k2 0 = 2 from rfl]
      simp only [sL_pokeJournal_0, sL_pokeJournal_1, sL_pokeJournal_2, sL_pokeJournal_3, sL_pokeJournal_6, sL_pokeJournal_9, sL_pokeJournal_10, sL_pokeJournal_11, sL_pokeJournal_12, sL_pokeJournal_13, sL_pokeJournal_14, sL_pokeJournal_15, sL_pokeJournal_16, bd_v, bi_v, Option.toList, List.cons_append, List.nil_append, List.length_cons, List.length_nil, Nat.reduceAdd, Nat.reduceLeDiff, ck_in, nI_add, nI_1, if_false, if_true, c1, e, bh_x, thL_pokeJournal_0]
end
