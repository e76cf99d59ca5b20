/-! Page -/
def PgL (h : Nat → Option va_E) (b : Nat) (F : Nat → Int32) (e : Nat) : Prop := h b = some (obj 3 [.ref (b + 1), .int (nI e)]) ∧ h (b + 1) = some (obj 4 [.ref (b + 2)]) ∧ h (b + 2) = some (ints 64 F)
def fre (S : List Nat) (h h' : Nat → Option va_E) : Prop := ∀ b, b ∉ S → h' b = h b
theorem fre.tr {S T U : List Nat} {h h' h'' : Nat → Option va_E} (a : fre S h h') (b : fre T h' h'') (hs : ∀ x ∈ S, x ∈ U) (ht : ∀ x ∈ T, x ∈ U) : fre U h h'' := fun x hx => (b x (fun z => hx (ht x z))).trans (a x (fun z => hx (hs x z)))
theorem fre.up {h : Nat → Option va_E} {a : Nat} {c : va_E} : fre [a] h (am_up h a c) := fun b hb => up_n (by simpa using hb)
theorem fre.u {S : List Nat} {h : Nat → Option va_E} {a : Nat} {c : va_E} (ha : a ∈ S) : fre S h (am_up h a c) := fun b hb => up_n (fun e => hb (e ▸ ha))
theorem fre.t {S : List Nat} {h h' h'' : Nat → Option va_E} (a : fre S h h') (b : fre S h' h'') : fre S h h'' := fun x hx => (b x hx).trans (a x hx)
theorem fre.w {S T : List Nat} {h h' : Nat → Option va_E} (a : fre S h h') (hs : ∀ x ∈ S, x ∈ T) : fre T h h' := fun x hx => a x (fun z => hx (hs x z))
theorem fre.r {S : List Nat} {h : Nat → Option va_E} : fre S h h := fun _ _ => rfl
section
variable {h : Nat → Option va_E} {z : Nat × Nat × Nat} {b e : Nat} {F : Nat → Int32}
theorem Page_byteOf (hp : PgL h b F e) {k : Nat} (hk : k < 64) : cl 55 [.ref b, .int (nI k)] (h, z) = some (.inl (some (.int (F k))), (h, z)) := by
  rw [eX3_byteOf]
  simp only [sX3_byteOf_0, sX3_byteOf_1, sX3_byteOf_4, sX3_byteOf_5, sX3_byteOf_8, hp.1, hp.2.1, gf_0, gf_1, gf_2, gf_3, gf_4, gf_5, pf_0, pf_1, pf_2, pf_3, pf_4, pf_5, List.set_cons_zero, List.set_cons_succ, bd_v, bi_v, Option.toList, List.cons_append, List.nil_append, List.length_cons, List.length_nil, Nat.reduceAdd, Nat.reduceLeDiff, ck_in, nI_add, nI_1, if_false, if_true, Row_get hp.2.1 hp.2.2 (by omega) hk]
theorem Page_flip (hp : PgL h b F e) {k : Nat} (hk : k < 64) (x : Int32) : cl 54 [.ref b, .int (nI k), .int x] (h, z) = some (.inl none, (am_up h (b + 2) (ints 64 (upd F k (F k ^^^ x))), z)) := by
  rw [eX3_flip]
  simp only [sX3_flip_0, sX3_flip_1, sX3_flip_4, sX3_flip_5, sX3_flip_6, sX3_flip_9, hp.1, hp.2.1, gf_0, gf_1, gf_2, gf_3, gf_4, gf_5, pf_0, pf_1, pf_2, pf_3, pf_4, pf_5, List.set_cons_zero, List.set_cons_succ, bd_v, bi_v, Option.toList, List.cons_append, List.nil_append, List.length_cons, List.length_nil, Nat.reduceAdd, Nat.reduceLeDiff, ck_in, nI_add, nI_1, if_false, if_true, Row_flip hp.2.1 hp.2.2 (by omega) hk]
theorem Page_isBad (hp : PgL h b F e) : cl 38 [.ref b] (h, z) = some (.inl (some (.int (if sm mix F 0 60 0 = num F 60 then 0 else 1))), (h, z)) := by
  have h1 := Row_sum (z := z) hp.2.1 hp.2.2 (by omega) (p := 0) (m := 60) (by omega)
  have h2 := Row_number (z := z) hp.2.1 hp.2.2 (by omega) (p := 60) (by omega)
  rw [show nI 0 = (0 : Int32) from rfl, show nI 60 = (60 : Int32) from rfl] at h1
  rw [show nI 60 = (60 : Int32) from rfl] at h2
  rw [eX3_isBad]
  simp only [sX3_isBad_0, sX3_isBad_1, sX3_isBad_4, sX3_isBad_5, sX3_isBad_7, sX3_isBad_10, sX3_isBad_11, sX3_isBad_14, sX3_isBad_16, sX3_isBad_19, sX3_isBad_22, sX3_isBad_23, sX3_isBad_26, sX3_isBad_27, sX3_isBad_27t, hp.1, hp.2.1, gf_0, gf_1, gf_2, gf_3, gf_4, gf_5, pf_0, pf_1, pf_2, pf_3, pf_4, pf_5, List.set_cons_zero, List.set_cons_succ, bd_v, bi_v, Option.toList, List.cons_append, List.nil_append, List.length_cons, List.length_nil, Nat.reduceAdd, Nat.reduceLeDiff, ck_in, nI_add, nI_1, if_false, if_true, h1, h2]
  by_cases h3 : sm mix F 0 60 0 = num F 60
  · rw [if_pos h3, if_pos h3]
  · rw [if_neg h3, if_neg h3]
theorem Page_depth (hp : PgL h b F e) : cl 45 [.ref b] (h, z) = some (.inl (some (.int (F 0))), (h, z)) := by
  have h1 := Row_get (z := z) hp.2.1 hp.2.2 (by omega) (k := 0) (by omega)
  rw [show nI 0 = (0 : Int32) from rfl] at h1
  rw [eX3_depth]
  simp only [sX3_depth_0, sX3_depth_1, sX3_depth_4, sX3_depth_5, sX3_depth_8, hp.1, hp.2.1, gf_0, gf_1, gf_2, gf_3, gf_4, gf_5, pf_0, pf_1, pf_2, pf_3, pf_4, pf_5, List.set_cons_zero, List.set_cons_succ, bd_v, bi_v, Option.toList, List.cons_append, List.nil_append, List.length_cons, List.length_nil, Nat.reduceAdd, Nat.reduceLeDiff, ck_in, nI_add, nI_1, if_false, if_true, h1]
theorem Page_records (hp : PgL h b F e) : cl 40 [.ref b] (h, z) = some (.inl (some (.int (F 1))), (h, z)) := by
  have h1 := Row_get (z := z) hp.2.1 hp.2.2 (by omega) (k := 1) (by omega)
  rw [show nI 1 = (1 : Int32) from rfl] at h1
  rw [eX3_records]
  simp only [sX3_records_0, sX3_records_1, sX3_records_4, sX3_records_5, sX3_records_8, hp.1, hp.2.1, gf_0, gf_1, gf_2, gf_3, gf_4, gf_5, pf_0, pf_1, pf_2, pf_3, pf_4, pf_5, List.set_cons_zero, List.set_cons_succ, bd_v, bi_v, Option.toList, List.cons_append, List.nil_append, List.length_cons, List.length_nil, Nat.reduceAdd, Nat.reduceLeDiff, ck_in, nI_add, nI_1, if_false, if_true, h1]
theorem Page_recordSizeAt (hp : PgL h b F e) {p m : Nat} (hk : p < 64) (hF : F p = nI m) : cl 41 [.ref b, .int (nI p)] (h, z) = some (.inl (some (.int (nI (m + 5)))), (h, z)) := by
  rw [eX3_recordSizeAt]
  simp only [sX3_recordSizeAt_0, sX3_recordSizeAt_1, sX3_recordSizeAt_4, sX3_recordSizeAt_5, sX3_recordSizeAt_8, sX3_recordSizeAt_11, hp.1, hp.2.1, gf_0, gf_1, gf_2, gf_3, gf_4, gf_5, pf_0, pf_1, pf_2, pf_3, pf_4, pf_5, List.set_cons_zero, List.set_cons_succ, bd_v, bi_v, Option.toList, List.cons_append, List.nil_append, List.length_cons, List.length_nil, Nat.reduceAdd, Nat.reduceLeDiff, ck_in, nI_add, nI_1, if_false, if_true, Row_get hp.2.1 hp.2.2 (by omega) hk, hF, Name_rso]
theorem Page_numberPlace (hp : PgL h b F e) {p m : Nat} (hk : p < 64) (hF : F p = nI m) : cl 43 [.ref b, .int (nI p)] (h, z) = some (.inl (some (.int (nI (p + 1 + m)))), (h, z)) := by
  rw [eX3_numberPlace]
  simp only [sX3_numberPlace_0, sX3_numberPlace_1, sX3_numberPlace_2, sX3_numberPlace_3, sX3_numberPlace_4, sX3_numberPlace_7, sX3_numberPlace_8, sX3_numberPlace_11, sX3_numberPlace_12, hp.1, hp.2.1, gf_0, gf_1, gf_2, gf_3, gf_4, gf_5, pf_0, pf_1, pf_2, pf_3, pf_4, pf_5, List.set_cons_zero, List.set_cons_succ, bd_v, bi_v, Option.toList, List.cons_append, List.nil_append, List.length_cons, List.length_nil, Nat.reduceAdd, Nat.reduceLeDiff, ck_in, nI_add, nI_1, if_false, if_true, Row_get hp.2.1 hp.2.2 (by omega) hk, hF]
theorem Page_numberAt (hp : PgL h b F e) {p m : Nat} (hk : p + 1 + m + 4 ≤ 64) (hF : F p = nI m) : cl 53 [.ref b, .int (nI p)] (h, z) = some (.inl (some (.int (num F (p + 1 + m)))), (h, z)) := by
  rw [eX3_numberAt]
  simp only [sX3_numberAt_0, sX3_numberAt_1, sX3_numberAt_4, sX3_numberAt_5, sX3_numberAt_6, sX3_numberAt_9, sX3_numberAt_12, hp.1, hp.2.1, gf_0, gf_1, gf_2, gf_3, gf_4, gf_5, pf_0, pf_1, pf_2, pf_3, pf_4, pf_5, List.set_cons_zero, List.set_cons_succ, bd_v, bi_v, Option.toList, List.cons_append, List.nil_append, List.length_cons, List.length_nil, Nat.reduceAdd, Nat.reduceLeDiff, ck_in, nI_add, nI_1, if_false, if_true, Page_numberPlace hp (show p < 64 by omega) hF, Row_number hp.2.1 hp.2.2 (by omega) hk]
theorem Page_hashAt (hp : PgL h b F e) {p m : Nat} (hk : p + 1 + m ≤ 64) (hF : F p = nI m) : cl 47 [.ref b, .int (nI p)] (h, z) = some (.inl (some (.int (sm mix F (p + 1) m 0))), (h, z)) := by
  rw [eX3_hashAt]
  simp only [sX3_hashAt_0, sX3_hashAt_1, sX3_hashAt_4, sX3_hashAt_5, sX3_hashAt_6, sX3_hashAt_7, sX3_hashAt_8, sX3_hashAt_11, sX3_hashAt_12, sX3_hashAt_15, sX3_hashAt_18, hp.1, hp.2.1, gf_0, gf_1, gf_2, gf_3, gf_4, gf_5, pf_0, pf_1, pf_2, pf_3, pf_4, pf_5, List.set_cons_zero, List.set_cons_succ, bd_v, bi_v, Option.toList, List.cons_append, List.nil_append, List.length_cons, List.length_nil, Nat.reduceAdd, Nat.reduceLeDiff, ck_in, nI_add, nI_1, if_false, if_true, Row_get hp.2.1 hp.2.2 (by omega) (show p < 64 by omega), hF, Row_sum hp.2.1 hp.2.2 (by omega) hk]
theorem Page_seal (hp : PgL h b F e) : cl 44 [.ref b] (h, z) = some (.inl none, (am_up h (b + 2) (ints 64 (sealb F)), z)) := by
  have h1 := Row_sum (z := z) hp.2.1 hp.2.2 (by omega) (p := 0) (m := 60) (by omega)
  have h2 := Row_setNumber (z := z) hp.2.1 hp.2.2 (by omega) (p := 60) (by omega) (sm mix F 0 60 0)
  rw [show nI 0 = (0 : Int32) from rfl, show nI 60 = (60 : Int32) from rfl] at h1
  rw [show nI 60 = (60 : Int32) from rfl] at h2
  rw [eX3_seal]
  simp only [sX3_seal_0, sX3_seal_1, sX3_seal_4, sX3_seal_6, sX3_seal_7, sX3_seal_10, sX3_seal_11, sX3_seal_13, sX3_seal_16, sX3_seal_19, hp.1, hp.2.1, gf_0, gf_1, gf_2, gf_3, gf_4, gf_5, pf_0, pf_1, pf_2, pf_3, pf_4, pf_5, List.set_cons_zero, List.set_cons_succ, bd_v, bi_v, Option.toList, List.cons_append, List.nil_append, List.length_cons, List.length_nil, Nat.reduceAdd, Nat.reduceLeDiff, ck_in, nI_add, nI_1, if_false, if_true, h1, h2]
  rfl
theorem PgL.row (hp : PgL h b F e) (F' : Nat → Int32) : PgL (am_up h (b + 2) (ints 64 F')) b F' e := ⟨by rw [up_n (by omega)]; exact hp.1, by rw [up_n (by omega)]; exact hp.2.1, up_s _ _ _⟩
theorem PgL.endu (hp : PgL h b F e) (e' : Nat) : PgL (am_up h b (obj 3 [.ref (b + 1), .int (nI e')])) b F e' := ⟨up_s _ _ _, by rw [up_n (by omega)]; exact hp.2.1, by rw [up_n (by omega)]; exact hp.2.2⟩
theorem PgL.fr {S : List Nat} {h' : Nat → Option va_E} (hp : PgL h b F e) (hf : fre S h h') (h0 : b ∉ S) (h1 : b + 1 ∉ S) (h2 : b + 2 ∉ S) : PgL h' b F e := ⟨(hf _ h0).trans hp.1, (hf _ h1).trans hp.2.1, (hf _ h2).trans hp.2.2⟩
theorem Page_renumber (hp : PgL h b F e) {p m : Nat} (hk : p + 1 + m + 4 ≤ 64) (hF : F p = nI m) (v : Int32) : cl 42 [.ref b, .int (nI p), .int v] (h, z) = some (.inl none, (am_up h (b + 2) (ints 64 (sealb (putn F (p + 1 + m) v))), z)) := by
  have h1 := Page_seal (z := z) (hp.row (putn F (p + 1 + m) v))
  rw [up_up] at h1
  rw [eX3_renumber]
  simp only [sX3_renumber_0, sX3_renumber_1, sX3_renumber_4, sX3_renumber_5, sX3_renumber_6, sX3_renumber_9, sX3_renumber_10, sX3_renumber_13, sX3_renumber_14, sX3_renumber_17, hp.1, hp.2.1, gf_0, gf_1, gf_2, gf_3, gf_4, gf_5, pf_0, pf_1, pf_2, pf_3, pf_4, pf_5, List.set_cons_zero, List.set_cons_succ, bd_v, bi_v, Option.toList, List.cons_append, List.nil_append, List.length_cons, List.length_nil, Nat.reduceAdd, Nat.reduceLeDiff, ck_in, nI_add, nI_1, if_false, if_true, Page_numberPlace hp (show p < 64 by omega) hF, Row_setNumber hp.2.1 hp.2.2 (by omega) hk, (hp.row (putn F (p + 1 + m) v)).1, h1]
theorem Page_countRecord (hp : PgL h b F e) {c s : Nat} (hF : F 1 = nI c) : cl 51 [.ref b, .int (nI s)] (h, z) = some (.inl none, (am_up (am_up h (b + 2) (ints 64 (upd F 1 (nI (c + 1))))) b (obj 3 [.ref (b + 1), .int (nI (e + s))]), z)) := by
  have h1 := Row_set (z := z) hp.2.1 hp.2.2 (by omega) (k := 1) (by omega) (nI (c + 1))
  have h0 := Row_get (z := z) hp.2.1 hp.2.2 (by omega) (k := 1) (by omega)
  rw [show nI 1 = (1 : Int32) from rfl] at h1
  rw [show nI 1 = (1 : Int32) from rfl] at h0
  rw [eX3_countRecord]
  simp only [sX3_countRecord_0, sX3_countRecord_1, sX3_countRecord_4, sX3_countRecord_5, sX3_countRecord_6, sX3_countRecord_9, sX3_countRecord_10, sX3_countRecord_13, sX3_countRecord_14, sX3_countRecord_15, sX3_countRecord_18, sX3_countRecord_19, sX3_countRecord_19i, sX3_countRecord_20, sX3_countRecord_23, sX3_countRecord_24, sX3_countRecord_25, sX3_countRecord_28, hp.1, hp.2.1, gf_0, gf_1, gf_2, gf_3, gf_4, gf_5, pf_0, pf_1, pf_2, pf_3, pf_4, pf_5, List.set_cons_zero, List.set_cons_succ, bd_v, bi_v, Option.toList, List.cons_append, List.nil_append, List.length_cons, List.length_nil, Nat.reduceAdd, Nat.reduceLeDiff, ck_in, nI_add, nI_1, if_false, if_true, h0, hF, h1, up_n (show b ≠ b + 2 by omega)]
theorem Page_copyFrom {b' e' : Nat} {F' : Nat → Int32} (hp : PgL h b F e) (hp' : PgL h b' F' e') (hn : b' ≠ b + 2) : cl 48 [.ref b, .ref b'] (h, z) = some (.inl none, (am_up (am_up h (b + 2) (ints 64 (cpy F' F 0 0 64))) b (obj 3 [.ref (b + 1), .int (nI e')]), z)) := by
  rw [eX3_copyFrom]
  simp only [sX3_copyFrom_0, sX3_copyFrom_1, sX3_copyFrom_4, sX3_copyFrom_5, sX3_copyFrom_8, sX3_copyFrom_11, sX3_copyFrom_12, sX3_copyFrom_13, sX3_copyFrom_16, sX3_copyFrom_19, hp.1, hp.2.1, hp'.1, gf_0, gf_1, gf_2, gf_3, gf_4, gf_5, pf_0, pf_1, pf_2, pf_3, pf_4, pf_5, List.set_cons_zero, List.set_cons_succ, bd_v, bi_v, Option.toList, List.cons_append, List.nil_append, List.length_cons, List.length_nil, Nat.reduceAdd, Nat.reduceLeDiff, ck_in, nI_add, nI_1, if_false, if_true, Row_copyFrom hp.2.1 hp.2.2 (by omega) hp'.2.1 hp'.2.2, up_n (show b ≠ b + 2 by omega), up_n hn]
theorem Page_empty (hp : PgL h b F e) (hF : ∀ j, 64 ≤ j → F j = 0) (d : Nat) : cl 49 [.ref b, .int (nI d)] (h, z) = some (.inl none, (am_up (am_up h (b + 2) (ints 64 (pgG d [] (fun _ => 0)))) b (obj 3 [.ref (b + 1), .int (nI 2)]), z)) := by
  have h1 := Row_clear (z := z) hp.2.1 hp.2.2 (by omega)
  have q := hp.row (fun j => if j < 64 then 0 else F j)
  have h2 := Row_set (z := z) q.2.1 q.2.2 (by omega) (k := 0) (by omega) (nI d)
  rw [show nI 0 = (0 : Int32) from rfl, up_up] at h2
  have e1 : upd (fun j => if j < 64 then 0 else F j) 0 (nI d) = pgG d [] (fun _ => 0) := by
    funext j
    unfold upd pgG
    by_cases h0 : j = 0
    · subst h0; simp
    · rw [if_neg h0]
      have : (if j < 64 then (0 : Int32) else F j) = 0 := by
        by_cases h64 : j < 64
        · rw [if_pos h64]
        · rw [if_neg h64]; exact hF j (by omega)
      show (if j < 64 then (0 : Int32) else F j) = _
      rw [this, if_neg h0]
      by_cases h60 : j < 60
      · rw [if_pos h60]
        by_cases h01 : j = 1
        · rw [if_pos h01]; rfl
        · rw [if_neg h01]; simp [encs]
      · rw [if_neg h60]
  rw [e1] at h2
  rw [eX3_empty]
  simp only [sX3_empty_0, sX3_empty_1, sX3_empty_4, sX3_empty_7, sX3_empty_8, sX3_empty_11, sX3_empty_12, sX3_empty_13, sX3_empty_16, sX3_empty_17, sX3_empty_18, sX3_empty_21, hp.1, hp.2.1, gf_0, gf_1, gf_2, gf_3, gf_4, gf_5, pf_0, pf_1, pf_2, pf_3, pf_4, pf_5, List.set_cons_zero, List.set_cons_succ, bd_v, bi_v, Option.toList, List.cons_append, List.nil_append, List.length_cons, List.length_nil, Nat.reduceAdd, Nat.reduceLeDiff, ck_in, nI_add, nI_1, if_false, if_true, h1, h2, q.1, q.2.1, up_n (show b ≠ b + 2 by omega)]
  rfl
/-- append: a record more, sealed -/
theorem Page_append {nb nr na l d : Nat} {f : Nat → Int32} {rs : List Rc} {t : Nat → Int32} (hp : PgL h b (pgG d rs t) (2 + tsz rs)) (ht : ∀ j, 64 ≤ j → t j = 0) (hnm : NameAt h nb nr na l f) (h1 : nb ≠ b + 2) (h2 : na ≠ b + 2) (h3 : nb ≠ b) (hs : 2 + tsz rs + (l + 5) ≤ 60) (v : Int32) :
    ∃ h', cl 52 [.ref b, .ref nb, .int v] (h, z) = some (.inl none, (h', z)) ∧ PgL h' b (pgF d (rs ++ [(nmof l f, v)])) (2 + tsz (rs ++ [(nmof l f, v)])) ∧ fre [b, b + 2] h h' := by
  have w := Name_writeRecord (z := z) hnm hp.2.1 hp.2.2 (by omega) h2 (p := 2 + tsz rs) (by omega) v
  have q := hp.row (recw (pgG d rs t) (2 + tsz rs) l f v)
  have hn2 : NameAt (am_up h (b + 2) (ints 64 (recw (pgG d rs t) (2 + tsz rs) l f v))) nb nr na l f := ⟨by rw [up_n h1]; exact hnm.1, by rw [up_n (ne_oa hnm.2.1 hp.2.2)]; exact hnm.2.1, by rw [up_n h2]; exact hnm.2.2.1, hnm.2.2.2⟩
  have hF : recw (pgG d rs t) (2 + tsz rs) l f v 1 = nI rs.length := by rw [recw_out (by omega)]; simp [pgG]
  have c := Page_countRecord (z := z) q (s := l + 5) hF
  rw [up_up, pg_append hs] at c
  have q2 := (hp.row (pgG d (rs ++ [(nmof l f, v)]) t)).endu (2 + tsz rs + (l + 5))
  have s := Page_seal (z := z) q2
  rw [seal_pg ht] at s
  have e1 : 2 + tsz rs + (l + 5) = 2 + tsz (rs ++ [(nmof l f, v)]) := by rw [tsz_app, tsz_one]; show _ = 2 + (tsz rs + ((nmof l f).length + 5)); rw [nmof_len]; omega
  refine ⟨_, ?_, by rw [← e1]; exact q2.row _, ((fre.u (by simp)).t (fre.u (by simp))).t (fre.u (by simp))⟩
  rw [eX3_append]
  simp only [sX3_append_0, sX3_append_1, sX3_append_2, sX3_append_5, sX3_append_6, sX3_append_9, sX3_append_10, sX3_append_13, sX3_append_14, sX3_append_15, sX3_append_18, sX3_append_21, sX3_append_22, sX3_append_25, hp.1, hnm.1, gf_0, gf_1, gf_2, gf_3, gf_4, gf_5, pf_0, pf_1, pf_2, pf_3, pf_4, pf_5, List.set_cons_zero, List.set_cons_succ, bd_v, bi_v, Option.toList, List.cons_append, List.nil_append, List.length_cons, List.length_nil, Nat.reduceAdd, Nat.reduceLeDiff, ck_in, nI_add, nI_1, if_false, if_true, w, q.1, hn2.1, Name_recordSize hn2, c, q2.1, s]
end
