/-! Row, the rest; Name -/
section
variable {h : Nat → Option va_E} {z : Nat × Nat × Nat} {r a n : Nat} {f : Nat → Int32}
theorem Row_copyFrom {r' a' : Nat} {g : Nat → Int32} (hr : h r = some (obj 4 [.ref a])) (ha : h a = some (ints n f)) (hn : n ≤ 100000) (hr' : h r' = some (obj 4 [.ref a'])) (ha' : h a' = some (ints n g)) :
    cl 8 [.ref r, .ref r'] (h, z) = some (.inl none, (am_up h a (ints n (cpy g f 0 0 n)), z)) := by
  rw [eX4_copyFrom]
  simp only [sX4_copyFrom_0, sX4_copyFrom_1, sX4_copyFrom_4, sX4_copyFrom_5, sX4_copyFrom_6, sX4_copyFrom_9, sX4_copyFrom_10, sX4_copyFrom_11, sX4_copyFrom_14, sX4_copyFrom_15, sX4_copyFrom_16, sX4_copyFrom_19, sX4_copyFrom_20, sX4_copyFrom_23, sX4_copyFrom_26, hr, hr', ha, ha', gf_0, gf_1, gf_2, gf_3, gf_4, gf_5, pf_0, pf_1, pf_2, pf_3, pf_4, pf_5, List.set_cons_zero, List.set_cons_succ, ln_in, bd_v, bi_v, Option.toList, List.cons_append, List.nil_append, List.length_cons, List.length_nil, Nat.reduceAdd, Nat.reduceLeDiff, ck_in, nI_add, nI_1, if_false, if_true, ite_self]
  simp only [am_cp]
  rw [if_pos ⟨trivial, trivial, by decide, by decide, nI_pos (by omega), by rw [cl_nI (by omega)]; exact (by simp : (0 : Nat) + n ≤ n), by rw [cl_nI (by omega)]; exact (by simp : (0 : Nat) + n ≤ n)⟩, cl_nI (by omega)]
  rfl
theorem fill_s {k : Nat} {x : Int32} {f : Nat → Int32} : upd (fun j => if j < k then x else f j) k x = fun j => if j < k + 1 then x else f j := by
  funext j
  show (if j = k then x else if j < k then x else f j) = _
  by_cases h1 : j = k
  · subst h1; simp
  · by_cases h2 : j < k
    · simp [h1, h2, Nat.lt_succ_of_lt h2]
    · rw [if_neg h1, if_neg h2, if_neg (by omega)]
theorem fill_l (hn : n ≤ 100000) (x : Int32) : ∀ (m k : Nat), k + m = n → rn 122 5 [.ref a, .int x, .int (nI k), .int (nI n)] [] (am_up h a (ints n (fun j => if j < k then x else f j)), z) = some (.inl none, (am_up h a (ints n (fun j => if j < n then x else f j)), z)) := by
  intro m
  induction m with
  | zero =>
    intro k hk
    have h1 : nI n ≤ nI k := by rw [nI_leI (by omega) (by omega)]; omega
    rw [sJ7_fill_53178_5]
    simp only [sJ7_fill_53178_0, sJ7_fill_53178_1, sJ7_fill_53178_2, sJ7_fill_53178_3, sJ7_fill_53178_4, sJ7_fill_53178_6, sJ7_fill_53178_7, sJ7_fill_53178_10, sJ7_fill_53178_11, sJ7_fill_53178_12, sJ7_fill_53178_13, sJ7_fill_53178_14, sJ7_fill_53178_17, sJ7_fill_53178_20, h1, if_true]
    rw [show k = n by omega]
  | succ m ih =>
    intro k hk
    have h1 : ¬ (nI n ≤ nI k) := by rw [nI_leI (by omega) (by omega)]; omega
    rw [sJ7_fill_53178_5]
    simp only [sJ7_fill_53178_0, sJ7_fill_53178_1, sJ7_fill_53178_2, sJ7_fill_53178_3, sJ7_fill_53178_4, sJ7_fill_53178_6, sJ7_fill_53178_7, sJ7_fill_53178_10, sJ7_fill_53178_11, sJ7_fill_53178_12, sJ7_fill_53178_13, sJ7_fill_53178_14, sJ7_fill_53178_17, sJ7_fill_53178_20, h1, if_false, up_s, as_in (show k < n by omega) hn, cl_nI (show k < 100001 by omega), up_up, fill_s, nI_1]
    exact ih (k + 1) (by omega)
theorem Arr_fill (ha : h a = some (ints n f)) (hn : n ≤ 100000) (x : Int32) : cl 122 [.ref a, .int x] (h, z) = some (.inl none, (am_up h a (ints n (fun j => if j < n then x else f j)), z)) := by
  have := fill_l (h := h) (z := z) (a := a) (f := f) hn x n 0 (by omega)
  rw [show (fun j => if j < 0 then x else f j) = f by funext j; simp, up_self ha] at this
  rw [eJ7_fill_53178]
  simp only [sJ7_fill_53178_0, sJ7_fill_53178_1, sJ7_fill_53178_2, sJ7_fill_53178_3, sJ7_fill_53178_4, ha, ln_in]
  exact this
theorem Row_clear (hr : h r = some (obj 4 [.ref a])) (ha : h a = some (ints n f)) (hn : n ≤ 100000) : cl 9 [.ref r] (h, z) = some (.inl none, (am_up h a (ints n (fun j => if j < n then 0 else f j)), z)) := by
  rw [eX4_clear]
  simp only [sX4_clear_0, sX4_clear_1, sX4_clear_4, sX4_clear_5, sX4_clear_8, hr, gf_0, gf_1, gf_2, gf_3, gf_4, gf_5, pf_0, pf_1, pf_2, pf_3, pf_4, pf_5, List.set_cons_zero, List.set_cons_succ, bd_v, bi_v, Option.toList, List.cons_append, List.nil_append, List.length_cons, List.length_nil, Nat.reduceAdd, Nat.reduceLeDiff, ck_in, nI_add, nI_1, if_false, if_true, Arr_fill ha hn]
theorem Row_init {q k s m : Nat} (hr : h r = some (obj 4 [.null])) (hm : m ≤ 100000) (hq : r ≠ q + 1) : cl 0 [.ref r, .int (nI m)] (h, q + 1, k, s) = some (.inl none, (am_up (am_up h (q + 1) (ints m (fun _ => 0))) r (obj 4 [.ref (q + 1)]), q + 2, k + 1, s + m)) := by
  have h1 : (if (0 : Int32) < nI m then nI m else 0) = nI m := by
    by_cases h0 : m = 0
    · subst h0; rfl
    · rw [if_pos]
      rw [show (0 : Int32) = nI 0 from rfl, nI_ltI (by omega) (by omega)]
      omega
  have h2 : ¬ (nI m < 0) := nI_pos (by omega)
  have h3 : ¬ 100000 < (nI m).toNatClampNeg := by rw [cl_nI (by omega)]; omega
  rw [eX4_init]
  simp only [sX4_init_0, sX4_init_1, sX4_init_4, sX4_init_5, sX4_init_6, sX4_init_7, sX4_init_10, sX4_init_12, sX4_init_15, bd_v, bi_v, Option.toList, List.cons_append, List.nil_append, List.length_cons, List.length_nil, Nat.reduceAdd, Nat.reduceLeDiff, ck_in, nI_add, nI_1, if_false, if_true, h1, h2, h3, not_false_eq_true]
  rw [cl_nI (by omega), up_n hq, hr, pf_0]
  simp only [sX4_init_0, sX4_init_1, sX4_init_4, sX4_init_5, sX4_init_6, sX4_init_7, sX4_init_10, sX4_init_12, sX4_init_15, gf_0, gf_1, gf_2, gf_3, gf_4, gf_5, pf_0, pf_1, pf_2, pf_3, pf_4, pf_5, List.set_cons_zero, List.set_cons_succ]
end
/-- a name in the class: its object, its row, its ints -/
def NameAt (h : Nat → Option va_E) (b r a l : Nat) (f : Nat → Int32) : Prop := h b = some (obj 2 [.ref r, .int (nI l)]) ∧ h r = some (obj 4 [.ref a]) ∧ h a = some (ints 12 f) ∧ l ≤ 12
section
variable {h : Nat → Option va_E} {z : Nat × Nat × Nat} {b r a l : Nat} {f : Nat → Int32}
theorem Name_rso {m : Nat} {σ : am_S} : cl 15 [.int (nI m)] σ = some (.inl (some (.int (nI (m + 5)))), σ) := by
  rw [eX2_recordSizeOf]
  simp only [sX2_recordSizeOf_0, sX2_recordSizeOf_1, sX2_recordSizeOf_2, sX2_recordSizeOf_3, sX2_recordSizeOf_4, sX2_recordSizeOf_5]
  rw [show (1 : Int32) = nI 1 from rfl, show (4 : Int32) = nI 4 from rfl, nI_add, nI_add, show 1 + m + 4 = m + 5 by omega]
theorem Name_length (hb : NameAt h b r a l f) : cl 13 [.ref b] (h, z) = some (.inl (some (.int (nI l))), (h, z)) := by
  rw [eX2_length]
  simp only [sX2_length_0, sX2_length_1, sX2_length_4, hb.1, gf_0, gf_1, gf_2, gf_3, gf_4, gf_5, pf_0, pf_1, pf_2, pf_3, pf_4, pf_5, List.set_cons_zero, List.set_cons_succ]
theorem Name_recordSize (hb : NameAt h b r a l f) : cl 14 [.ref b] (h, z) = some (.inl (some (.int (nI (l + 5)))), (h, z)) := by
  rw [eX2_recordSize]
  simp only [sX2_recordSize_0, sX2_recordSize_1, sX2_recordSize_4, sX2_recordSize_7, hb.1, gf_0, gf_1, gf_2, gf_3, gf_4, gf_5, pf_0, pf_1, pf_2, pf_3, pf_4, pf_5, List.set_cons_zero, List.set_cons_succ, bd_v, bi_v, Option.toList, List.cons_append, List.nil_append, List.length_cons, List.length_nil, Nat.reduceAdd, Nat.reduceLeDiff, ck_in, nI_add, nI_1, if_false, if_true, Name_rso]
theorem Name_hash (hb : NameAt h b r a l f) : cl 16 [.ref b] (h, z) = some (.inl (some (.int (sm mix f 0 l 0))), (h, z)) := by
  have hs := Row_sum (z := z) hb.2.1 hb.2.2.1 (by omega) (p := 0) (m := l) (by have := hb.2.2.2; omega)
  rw [show nI 0 = (0 : Int32) from rfl] at hs
  rw [eX2_hash]
  simp only [sX2_hash_0, sX2_hash_1, sX2_hash_4, sX2_hash_5, sX2_hash_6, sX2_hash_9, sX2_hash_12, hb.1, hb.2.1, gf_0, gf_1, gf_2, gf_3, gf_4, gf_5, pf_0, pf_1, pf_2, pf_3, pf_4, pf_5, List.set_cons_zero, List.set_cons_succ, bd_v, bi_v, Option.toList, List.cons_append, List.nil_append, List.length_cons, List.length_nil, Nat.reduceAdd, Nat.reduceLeDiff, ck_in, nI_add, nI_1, if_false, if_true, hs]
theorem Name_clear (hb : NameAt h b r a l f) : cl 19 [.ref b] (h, z) = some (.inl none, (am_up h b (obj 2 [.ref r, .int 0]), z)) := by
  rw [eX2_clear]
  simp only [sX2_clear_0, sX2_clear_1, sX2_clear_2, sX2_clear_5, hb.1, gf_0, gf_1, gf_2, gf_3, gf_4, gf_5, pf_0, pf_1, pf_2, pf_3, pf_4, pf_5, List.set_cons_zero, List.set_cons_succ, bd_v, bi_v, Option.toList, List.cons_append, List.nil_append, List.length_cons, List.length_nil, Nat.reduceAdd, Nat.reduceLeDiff, ck_in, nI_add, nI_1, if_false, if_true]
theorem Name_extend_no (hb : NameAt h b r a l f) (hl : l = 12) (x : Int32) : cl 12 [.ref b, .int x] (h, z) = some (.inl (some (.int 0)), (h, z)) := by
  rw [eX2_extend]
  simp only [sX2_extend_0, sX2_extend_1, sX2_extend_4, sX2_extend_6, sX2_extend_9, sX2_extend_10, sX2_extend_10t, sX2_extend_11, sX2_extend_12, sX2_extend_15, sX2_extend_16, sX2_extend_19, sX2_extend_20, sX2_extend_23, sX2_extend_24, sX2_extend_24i, sX2_extend_25, sX2_extend_28, sX2_extend_29, sX2_extend_30, sX2_extend_33, sX2_extend_34, sX2_extend_34t, hb.1, gf_0, gf_1, gf_2, gf_3, gf_4, gf_5, pf_0, pf_1, pf_2, pf_3, pf_4, pf_5, List.set_cons_zero, List.set_cons_succ, bd_v, bi_v, Option.toList, List.cons_append, List.nil_append, List.length_cons, List.length_nil, Nat.reduceAdd, Nat.reduceLeDiff, ck_in, nI_add, nI_1, if_false, if_true]
  subst hl
  rw [if_neg (by decide)]
theorem Name_extend (hb : NameAt h b r a l f) (hl : l < 12) (x : Int32) : cl 12 [.ref b, .int x] (h, z) = some (.inl (some (.int 1)), (am_up (am_up h a (ints 12 (upd f l x))) b (obj 2 [.ref r, .int (nI (l + 1))]), z)) := by
  have h1 : nI l < 12 := by rw [show (12 : Int32) = nI 12 from rfl, nI_ltI (by omega) (by omega)]; omega
  have hba : b ≠ a := ne_oa hb.1 hb.2.2.1
  rw [eX2_extend]
  simp only [sX2_extend_0, sX2_extend_1, sX2_extend_4, sX2_extend_6, sX2_extend_9, sX2_extend_10, sX2_extend_10t, sX2_extend_11, sX2_extend_12, sX2_extend_15, sX2_extend_16, sX2_extend_19, sX2_extend_20, sX2_extend_23, sX2_extend_24, sX2_extend_24i, sX2_extend_25, sX2_extend_28, sX2_extend_29, sX2_extend_30, sX2_extend_33, sX2_extend_34, sX2_extend_34t, hb.1, hb.2.1, gf_0, gf_1, gf_2, gf_3, gf_4, gf_5, pf_0, pf_1, pf_2, pf_3, pf_4, pf_5, List.set_cons_zero, List.set_cons_succ, bd_v, bi_v, Option.toList, List.cons_append, List.nil_append, List.length_cons, List.length_nil, Nat.reduceAdd, Nat.reduceLeDiff, ck_in, nI_add, nI_1, if_false, if_true, h1, Row_set hb.2.1 hb.2.2.1 (by omega : 12 ≤ 100000) hl, up_n hba]
theorem Name_isAt {r' a' n : Nat} {g : Nat → Int32} (hb : NameAt h b r a l f) (hr : h r' = some (obj 4 [.ref a'])) (ha : h a' = some (ints n g)) (hn : n ≤ 100000) {p m : Nat} (hp : p < n) (hg : g p = nI m) (hm : m < 1000) (hpm : m = l → p + 1 + l ≤ n) : cl 17 [.ref b, .ref r', .int (nI p)] (h, z) = some (.inl (some (.int (if m = l ∧ ∀ i, i < l → g (p + 1 + i) = f i then 1 else 0))), (h, z)) := by
  have hl := hb.2.2.2
  rw [eX2_isAt]
  simp only [sX2_isAt_0, sX2_isAt_1, sX2_isAt_2, sX2_isAt_5, sX2_isAt_6, sX2_isAt_9, sX2_isAt_12, sX2_isAt_13, sX2_isAt_14, sX2_isAt_15, sX2_isAt_16, sX2_isAt_17, sX2_isAt_20, sX2_isAt_21, sX2_isAt_22, sX2_isAt_25, sX2_isAt_28, sX2_isAt_31, sX2_isAt_32, sX2_isAt_35, sX2_isAt_36, sX2_isAt_36t, hb.1, hr, gf_0, gf_1, gf_2, gf_3, gf_4, gf_5, pf_0, pf_1, pf_2, pf_3, pf_4, pf_5, List.set_cons_zero, List.set_cons_succ, bd_v, bi_v, Option.toList, List.cons_append, List.nil_append, List.length_cons, List.length_nil, Nat.reduceAdd, Nat.reduceLeDiff, ck_in, nI_add, nI_1, if_false, if_true, Row_get hr ha hn hp, hg]
  by_cases h1 : m = l
  · have hs := Row_isSame (z := z) hr ha hn hb.2.1 hb.2.2.1 (by omega) (p := p + 1) (q := 0) (m := l) (hpm h1) (by omega)
    rw [show nI 0 = (0 : Int32) from rfl] at hs
    rw [if_neg (by rw [h1]; exact fun z => z rfl), hs, bd_v]
    simp only [Option.toList, List.cons_append, List.nil_append, sX2_isAt_28, Nat.zero_add]
    by_cases h2 : ∀ i, i < l → g (p + 1 + i) = f i
    · rw [if_pos h2, if_neg (by decide), if_pos ⟨h1, h2⟩]
      simp only [sX2_isAt_0, sX2_isAt_1, sX2_isAt_2, sX2_isAt_5, sX2_isAt_6, sX2_isAt_9, sX2_isAt_12, sX2_isAt_13, sX2_isAt_14, sX2_isAt_15, sX2_isAt_16, sX2_isAt_17, sX2_isAt_20, sX2_isAt_21, sX2_isAt_22, sX2_isAt_25, sX2_isAt_28, sX2_isAt_31, sX2_isAt_32, sX2_isAt_35, sX2_isAt_36, sX2_isAt_36t]
    · rw [if_neg h2, if_pos rfl, if_neg (fun z => h2 z.2)]
      simp only [sX2_isAt_0, sX2_isAt_1, sX2_isAt_2, sX2_isAt_5, sX2_isAt_6, sX2_isAt_9, sX2_isAt_12, sX2_isAt_13, sX2_isAt_14, sX2_isAt_15, sX2_isAt_16, sX2_isAt_17, sX2_isAt_20, sX2_isAt_21, sX2_isAt_22, sX2_isAt_25, sX2_isAt_28, sX2_isAt_31, sX2_isAt_32, sX2_isAt_35, sX2_isAt_36, sX2_isAt_36t]
  · rw [if_pos (fun z => h1 ((nI_eq (by omega) (by omega)).mp z)), if_neg (fun z => h1 z.1)]
/-- a record as it lies in a row -/
def recw (g : Nat → Int32) (p l : Nat) (f : Nat → Int32) (v : Int32) : Nat → Int32 := putn (cpy f (upd g p (nI l)) 0 (p + 1) l) (p + 1 + l) v
theorem Name_writeRecord {r' a' n : Nat} {g : Nat → Int32} (hb : NameAt h b r a l f) (hr : h r' = some (obj 4 [.ref a'])) (ha : h a' = some (ints n g)) (hn : n ≤ 100000) (hne : a ≠ a') {p : Nat} (hp : p + 5 + l ≤ n) (v : Int32) : cl 18 [.ref b, .ref r', .int (nI p), .int v] (h, z) = some (.inl none, (am_up h a' (ints n (recw g p l f v)), z)) := by
  have hl := hb.2.2.2
  have n1 : b ≠ a' := ne_oa hb.1 ha
  have n2 : r' ≠ a' := ne_oa hr ha
  have n3 : r ≠ a' := ne_oa hb.2.1 ha
  have c1 := Row_copyPart (h := am_up h a' (ints n (upd g p (nI l)))) (z := z) (by rw [up_n n2]; exact hr) (up_s _ _ _) hn (by rw [up_n n3]; exact hb.2.1) (by rw [up_n hne]; exact hb.2.2.1) (by omega) hne (p := p + 1) (q := 0) (m := l) (by omega) (by omega)
  rw [show nI 0 = (0 : Int32) from rfl, up_up] at c1
  have c2 := Row_setNumber (h := am_up h a' (ints n (cpy f (upd g p (nI l)) 0 (p + 1) l))) (z := z) (by rw [up_n n2]; exact hr) (up_s _ _ _) hn (p := p + 1 + l) (by omega) v
  rw [up_up] at c2
  rw [eX2_writeRecord]
  simp only [sX2_writeRecord_0, sX2_writeRecord_1, sX2_writeRecord_2, sX2_writeRecord_3, sX2_writeRecord_6, sX2_writeRecord_9, sX2_writeRecord_10, sX2_writeRecord_11, sX2_writeRecord_12, sX2_writeRecord_13, sX2_writeRecord_14, sX2_writeRecord_17, sX2_writeRecord_18, sX2_writeRecord_19, sX2_writeRecord_22, sX2_writeRecord_25, sX2_writeRecord_26, sX2_writeRecord_27, sX2_writeRecord_28, sX2_writeRecord_29, sX2_writeRecord_30, sX2_writeRecord_33, sX2_writeRecord_34, sX2_writeRecord_35, sX2_writeRecord_38, hb.1, hr, gf_0, gf_1, gf_2, gf_3, gf_4, gf_5, pf_0, pf_1, pf_2, pf_3, pf_4, pf_5, List.set_cons_zero, List.set_cons_succ, bd_v, bi_v, Option.toList, List.cons_append, List.nil_append, List.length_cons, List.length_nil, Nat.reduceAdd, Nat.reduceLeDiff, ck_in, nI_add, nI_1, if_false, if_true, Row_set hr ha hn (show p < n by omega), up_n n1, up_n n2, c1, c2]
  rfl
theorem Name_readRecord {r' a' n : Nat} {g : Nat → Int32} (hb : NameAt h b r a l f) (hr : h r' = some (obj 4 [.ref a'])) (ha : h a' = some (ints n g)) (hn : n ≤ 100000) (hne : a' ≠ a) {p m : Nat} (hp : p + 1 + m ≤ n) (hg : g p = nI m) (hm : m ≤ 12) : cl 20 [.ref b, .ref r', .int (nI p)] (h, z) = some (.inl none, (am_up (am_up h b (obj 2 [.ref r, .int (nI m)])) a (ints 12 (cpy g f (p + 1) 0 m)), z)) := by
  have n1 : b ≠ a := ne_oa hb.1 hb.2.2.1
  have n2 : b ≠ r := by intro e; have h1 := hb.1; rw [e, hb.2.1] at h1; cases h1
  have n3 : b ≠ r' := by intro e; have h1 := hb.1; rw [e, hr] at h1; cases h1
  have n4 : b ≠ a' := ne_oa hb.1 ha
  have e1 : (if nI m < (12 : Int32) then nI m else 12) = nI m := by
    rw [show (12 : Int32) = nI 12 from rfl]
    by_cases h1 : m = 12
    · subst h1; simp
    · rw [if_pos]; rw [nI_ltI (by omega) (by omega)]; omega
  have e1' : (if (12 : Int32) < nI m then 12 else nI m) = nI m := by
    rw [if_neg]; rw [show (12 : Int32) = nI 12 from rfl, nI_ltI (by omega) (by omega)]; omega
  have e2 : (if (0 : Int32) < nI m then nI m else 0) = nI m := by
    by_cases h0 : m = 0
    · subst h0; rfl
    · rw [if_pos]
      rw [show (0 : Int32) = nI 0 from rfl, nI_ltI (by omega) (by omega)]
      omega
  have c1 := Row_copyPart (h := am_up h b (obj 2 [.ref r, .int (nI m)])) (z := z) (by rw [up_n (Ne.symm n2)]; exact hb.2.1) (by rw [up_n (Ne.symm n1)]; exact hb.2.2.1) (by omega) (by rw [up_n (Ne.symm n3)]; exact hr) (by rw [up_n (Ne.symm n4)]; exact ha) hn hne (p := 0) (q := p + 1) (m := m) (by omega) (by omega)
  rw [show nI 0 = (0 : Int32) from rfl] at c1
  rw [eX2_readRecord]
  simp only [sX2_readRecord_0, sX2_readRecord_1, sX2_readRecord_2, sX2_readRecord_3, sX2_readRecord_4, sX2_readRecord_7, sX2_readRecord_9, sX2_readRecord_12, sX2_readRecord_15, sX2_readRecord_18, sX2_readRecord_19, sX2_readRecord_22, sX2_readRecord_23, sX2_readRecord_24, sX2_readRecord_25, sX2_readRecord_26, sX2_readRecord_27, sX2_readRecord_28, sX2_readRecord_31, sX2_readRecord_34, hb.1, hr, gf_0, gf_1, gf_2, gf_3, gf_4, gf_5, pf_0, pf_1, pf_2, pf_3, pf_4, pf_5, List.set_cons_zero, List.set_cons_succ, bd_v, bi_v, Option.toList, List.cons_append, List.nil_append, List.length_cons, List.length_nil, Nat.reduceAdd, Nat.reduceLeDiff, ck_in, nI_add, nI_1, if_false, if_true, Row_get hr ha hn (show p < n by omega), hg, e1, e1', e2, up_s, up_n (Ne.symm n2), hb.2.1, c1]
end
