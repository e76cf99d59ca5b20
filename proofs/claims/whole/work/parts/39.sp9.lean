/-! Shelf: the table doubled and redirected, a split -/
section
variable {h : Nat → Option va_E} {z : Nat × Nat × Nat} {s n : Nat} {F : Nat → Nat → Int32} {E : Nat → Nat} {tf : Nat → Int32} {D used acts : Nat}
theorem ShL.tab (a : ShL h s n F E tf D used acts) (tf' : Nat → Int32) : ShL (am_up h (s + 5) (ints 32 tf')) s n F E tf' D used acts := by
  obtain ⟨a1, ⟨g, a2, a3⟩, ⟨Fs, es, ⟨p1, p2, p3⟩, a5⟩, a6, a7, a8⟩ := a
  refine ⟨by rw [up_n (by omega)]; exact a1, ⟨g, by rw [up_n (by omega)]; exact a2, a3⟩, ⟨Fs, es, ⟨by rw [up_n (by omega)]; exact p1, by rw [up_n (by omega)]; exact p2, by rw [up_n (by omega)]; exact p3⟩, a5⟩, by rw [up_n (by omega)]; exact a6, up_s _ _ _, fun i hi => ?_⟩
  obtain ⟨q1, q2, q3⟩ := a8 i hi
  exact ⟨by rw [up_n (by omega)]; exact q1, by rw [up_n (by omega)]; exact q2, by rw [up_n (by omega)]; exact q3⟩
theorem ShL.head (a : ShL h s n F E tf D used acts) (D' used' acts' : Nat) : ShL (am_up h s (obj 5 [.ref (s + 6), .ref (s + 1), .ref (s + 4), .int (nI D'), .int (nI used'), .int (nI acts')])) s n F E tf D' used' acts' := by
  obtain ⟨a1, ⟨g, a2, a3⟩, ⟨Fs, es, ⟨p1, p2, p3⟩, a5⟩, a6, a7, a8⟩ := a
  refine ⟨up_s _ _ _, ⟨g, by rw [up_n (by omega)]; exact a2, a3⟩, ⟨Fs, es, ⟨by rw [up_n (by omega)]; exact p1, by rw [up_n (by omega)]; exact p2, by rw [up_n (by omega)]; exact p3⟩, a5⟩, by rw [up_n (by omega)]; exact a6, by rw [up_n (by omega)]; exact a7, fun i hi => ?_⟩
  obtain ⟨q1, q2, q3⟩ := a8 i hi
  exact ⟨by rw [up_n (by omega)]; exact q1, by rw [up_n (by omega)]; exact q2, by rw [up_n (by omega)]; exact q3⟩
/-- pages changed by what touches pages alone -/
theorem ShL.pages (a : ShL h s n F E tf D used acts) {h' : Nat → Option va_E} {F' : Nat → Nat → Int32} {E' : Nat → Nat} (h0 : h' s = h s) (h4 : h' (s + 4) = h (s + 4)) (h5 : h' (s + 5) = h (s + 5)) (h6 : h' (s + 6) = h (s + 6)) (hsp : ∃ (Fs : Nat → Int32) (es : Nat), PgL h' (s + 1) Fs es ∧ ∀ j, 64 ≤ j → Fs j = 0) (hp : ∀ i, i < n → PgL h' (s + 7 + 3 * i) (F' i) (E' i)) : ShL h' s n F' E' tf D used acts := by
  obtain ⟨a1, ⟨g, a2, a3⟩, -, a6, a7, -⟩ := a
  exact ⟨by rw [h0]; exact a1, ⟨g, by rw [h6]; exact a2, a3⟩, hsp, by rw [h4]; exact a6, by rw [h5]; exact a7, hp⟩
theorem Shelf_double (a : ShL h s n F E tf D used acts) (hD : D ≤ 4) : cl 66 [.ref s] (h, z) = some (.inl none, (am_up (am_up h (s + 5) (ints 32 (cpy tf tf 0 (2 ^ D) (2 ^ D)))) s (obj 5 [.ref (s + 6), .ref (s + 1), .ref (s + 4), .int (nI (D + 1)), .int (nI used), .int (nI acts)]), z)) := by
  have h1 : 2 ^ D + 2 ^ D ≤ 32 := by have := pow32 (show D + 1 ≤ 5 by omega); rw [Nat.pow_succ] at this; omega
  have c := Row_copySelf (z := z) a.2.2.2.1 a.2.2.2.2.1 (by omega) (p := 2 ^ D) (q := 0) (m := 2 ^ D) (by omega) (by omega)
  rw [show nI 0 = (0 : Int32) from rfl] at c
  have q := a.tab (cpy tf tf 0 (2 ^ D) (2 ^ D))
  rw [eX5_doubleTable]
  simp only [sX5_doubleTable_0, sX5_doubleTable_1, sX5_doubleTable_4, sX5_doubleTable_5, sX5_doubleTable_8, sX5_doubleTable_9, sX5_doubleTable_12, sX5_doubleTable_13, sX5_doubleTable_14, sX5_doubleTable_17, sX5_doubleTable_20, sX5_doubleTable_21, sX5_doubleTable_21i, sX5_doubleTable_22, sX5_doubleTable_25, sX5_doubleTable_26, sX5_doubleTable_27, sX5_doubleTable_30, a.1, a.2.2.2.1, gf_0, gf_1, gf_2, gf_3, gf_4, gf_5, pf_0, pf_1, pf_2, pf_3, pf_4, pf_5, List.set_cons_zero, List.set_cons_succ, bd_v, bi_v, Option.toList, List.cons_append, List.nil_append, List.length_cons, List.length_nil, Nat.reduceAdd, Nat.reduceLeDiff, ck_in, nI_add, nI_1, if_false, if_true, Shelf_entries a (show D ≤ 5 by omega), c, q.1]
/-- entries of p that have the bit go to u -/
def rdr (tf : Nat → Int32) (p u k m : Nat) : Nat → Int32 := fun j => if j < m ∧ tf j = nI p ∧ j / 2 ^ k % 2 = 1 then nI u else tf j
theorem rdr_s1 {tf : Nat → Int32} {p u k m : Nat} (h1 : tf m = nI p ∧ m / 2 ^ k % 2 = 1) : upd (rdr tf p u k m) m (nI u) = rdr tf p u k (m + 1) := by
  funext j
  unfold upd rdr
  by_cases hj : j = m
  · subst hj
    rw [if_pos rfl, if_pos ⟨by omega, h1⟩]
  · rw [if_neg hj]
    by_cases h2 : j < m ∧ tf j = nI p ∧ j / 2 ^ k % 2 = 1
    · rw [if_pos h2, if_pos ⟨by omega, h2.2⟩]
    · rw [if_neg h2, if_neg (fun h3 => h2 ⟨by omega, h3.2⟩)]
theorem rdr_s0 {tf : Nat → Int32} {p u k m : Nat} (h1 : ¬ (tf m = nI p ∧ m / 2 ^ k % 2 = 1)) : rdr tf p u k m = rdr tf p u k (m + 1) := by
  funext j
  unfold rdr
  by_cases hj : j = m
  · subst hj
    rw [if_neg (by omega), if_neg (fun h3 => h1 h3.2)]
  · by_cases h2 : j < m ∧ tf j = nI p ∧ j / 2 ^ k % 2 = 1
    · rw [if_pos h2, if_pos ⟨by omega, h2.2⟩]
    · rw [if_neg h2, if_neg (fun h3 => h2 ⟨by omega, h3.2⟩)]
theorem redirect_l (a : ShL h s n F E tf D used acts) (hD : D ≤ 5) {p u k : Nat} (hk : k < 31) : ∀ (m e : Nat), e + m = 2 ^ D → rn 67 3 [.ref s, .int (nI p), .int (nI u), .int (nI k), .int (nI e)] [] (am_up h (s + 5) (ints 32 (rdr tf p u k e)), z) = some (.inl none, (am_up h (s + 5) (ints 32 (rdr tf p u k (2 ^ D))), z)) := by
  have h32 := pow32 hD
  intro m
  induction m with
  | zero =>
    intro e he
    have q := a.tab (rdr tf p u k e)
    have h1 : nI (2 ^ D) ≤ nI e := by rw [nI_leI (by omega) (by omega)]; omega
    rw [sX5_redirect_3]
    simp only [sX5_redirect_0, sX5_redirect_1, sX5_redirect_5, sX5_redirect_6, sX5_redirect_9, sX5_redirect_12, sX5_redirect_13, sX5_redirect_16, sX5_redirect_18, sX5_redirect_21, sX5_redirect_22, sX5_redirect_25, sX5_redirect_27, sX5_redirect_28, sX5_redirect_29, sX5_redirect_30, sX5_redirect_31, sX5_redirect_32, sX5_redirect_35, sX5_redirect_36, sX5_redirect_39, sX5_redirect_41, sX5_redirect_42, sX5_redirect_45, sX5_redirect_48, sX5_redirect_51, q.1, gf_0, gf_1, gf_2, gf_3, gf_4, gf_5, pf_0, pf_1, pf_2, pf_3, pf_4, pf_5, List.set_cons_zero, List.set_cons_succ, bd_v, bi_v, Option.toList, List.cons_append, List.nil_append, List.length_cons, List.length_nil, Nat.reduceAdd, Nat.reduceLeDiff, ck_in, nI_add, nI_1, if_false, if_true, Shelf_entries q hD, h1]
    rw [show e = 2 ^ D by omega]
  | succ m ih =>
    intro e he
    have q := a.tab (rdr tf p u k e)
    have h1 : ¬ (nI (2 ^ D) ≤ nI e) := by rw [nI_leI (by omega) (by omega)]; omega
    have hg := Row_get (z := z) q.2.2.2.1 q.2.2.2.2.1 (by omega) (k := e) (by omega)
    have he1 : rdr tf p u k e e = tf e := by unfold rdr; rw [if_neg (by omega)]
    rw [he1] at hg
    have hu : ((nI e).toUInt32 >>> ((nI k).toUInt32 &&& Int32.toUInt32 31)).toInt32 &&& 1 = nI (e / 2 ^ k % 2) := by rw [ush_un _ hk, un_nI (by omega)]
    have hst := Row_set (z := z) q.2.2.2.1 q.2.2.2.2.1 (by omega) (k := e) (by omega) (nI u)
    rw [up_up] at hst
    have hq := ih (e + 1) (by omega)
    rw [sX5_redirect_3]
    by_cases c1 : tf e = nI p
    · by_cases c2 : e / 2 ^ k % 2 = 1
      · rw [rdr_s1 ⟨c1, c2⟩] at hst
        have c3 : ¬ ¬ (nI (e / 2 ^ k % 2) = 1) := fun z => z (by rw [c2]; rfl)
        simp only [sX5_redirect_0, sX5_redirect_1, sX5_redirect_5, sX5_redirect_6, sX5_redirect_9, sX5_redirect_12, sX5_redirect_13, sX5_redirect_16, sX5_redirect_18, sX5_redirect_21, sX5_redirect_22, sX5_redirect_25, sX5_redirect_27, sX5_redirect_28, sX5_redirect_29, sX5_redirect_30, sX5_redirect_31, sX5_redirect_32, sX5_redirect_35, sX5_redirect_36, sX5_redirect_39, sX5_redirect_41, sX5_redirect_42, sX5_redirect_45, sX5_redirect_48, sX5_redirect_51, q.1, q.2.2.2.1, gf_0, gf_1, gf_2, gf_3, gf_4, gf_5, pf_0, pf_1, pf_2, pf_3, pf_4, pf_5, List.set_cons_zero, List.set_cons_succ, bd_v, bi_v, Option.toList, List.cons_append, List.nil_append, List.length_cons, List.length_nil, Nat.reduceAdd, Nat.reduceLeDiff, ck_in, nI_add, nI_1, if_false, if_true, Shelf_entries q hD, h1, hg, c1, not_true_eq_false, hu, c3, hst]
        exact hq
      · have c3 : ¬ (nI (e / 2 ^ k % 2) = 1) := fun z => c2 ((nI_eq (b := 1) (by omega) (by omega)).mp z)
        rw [← rdr_s0 (fun z => c2 z.2)] at hq
        simp only [sX5_redirect_0, sX5_redirect_1, sX5_redirect_5, sX5_redirect_6, sX5_redirect_9, sX5_redirect_12, sX5_redirect_13, sX5_redirect_16, sX5_redirect_18, sX5_redirect_21, sX5_redirect_22, sX5_redirect_25, sX5_redirect_27, sX5_redirect_28, sX5_redirect_29, sX5_redirect_30, sX5_redirect_31, sX5_redirect_32, sX5_redirect_35, sX5_redirect_36, sX5_redirect_39, sX5_redirect_41, sX5_redirect_42, sX5_redirect_45, sX5_redirect_48, sX5_redirect_51, q.1, q.2.2.2.1, gf_0, gf_1, gf_2, gf_3, gf_4, gf_5, pf_0, pf_1, pf_2, pf_3, pf_4, pf_5, List.set_cons_zero, List.set_cons_succ, bd_v, bi_v, Option.toList, List.cons_append, List.nil_append, List.length_cons, List.length_nil, Nat.reduceAdd, Nat.reduceLeDiff, ck_in, nI_add, nI_1, if_false, if_true, Shelf_entries q hD, h1, hg, c1, not_true_eq_false, not_false_eq_true, hu, c3]
        exact hq
    · rw [← rdr_s0 (fun z => c1 z.1)] at hq
      simp only [sX5_redirect_0, sX5_redirect_1, sX5_redirect_5, sX5_redirect_6, sX5_redirect_9, sX5_redirect_12, sX5_redirect_13, sX5_redirect_16, sX5_redirect_18, sX5_redirect_21, sX5_redirect_22, sX5_redirect_25, sX5_redirect_27, sX5_redirect_28, sX5_redirect_29, sX5_redirect_30, sX5_redirect_31, sX5_redirect_32, sX5_redirect_35, sX5_redirect_36, sX5_redirect_39, sX5_redirect_41, sX5_redirect_42, sX5_redirect_45, sX5_redirect_48, sX5_redirect_51, q.1, q.2.2.2.1, gf_0, gf_1, gf_2, gf_3, gf_4, gf_5, pf_0, pf_1, pf_2, pf_3, pf_4, pf_5, List.set_cons_zero, List.set_cons_succ, bd_v, bi_v, Option.toList, List.cons_append, List.nil_append, List.length_cons, List.length_nil, Nat.reduceAdd, Nat.reduceLeDiff, ck_in, nI_add, nI_1, if_false, if_true, Shelf_entries q hD, h1, hg, c1, not_true_eq_false, not_false_eq_true]
      exact hq
theorem Shelf_redirect (a : ShL h s n F E tf D used acts) (hD : D ≤ 5) {p u k : Nat} (hk : k < 31) : cl 67 [.ref s, .int (nI p), .int (nI u), .int (nI k)] (h, z) = some (.inl none, (am_up h (s + 5) (ints 32 (rdr tf p u k (2 ^ D))), z)) := by
  have := redirect_l (z := z) (p := p) (u := u) a hD hk (2 ^ D) 0 (by omega)
  rw [show rdr tf p u k 0 = tf by funext j; unfold rdr; rw [if_neg (by omega)], up_self a.2.2.2.2.1] at this
  rw [eX5_redirect]
  simp only [sX5_redirect_0, sX5_redirect_1]
  exact this
end
