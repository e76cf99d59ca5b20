/-! Row -/
section
variable {h : Nat → Option va_E} {z : Nat × Nat × Nat} {r a n : Nat} {f : Nat → Int32}
theorem Row_get (hr : h r = some (obj 4 [.ref a])) (ha : h a = some (ints n f)) (hn : n ≤ 100000) {k : Nat} (hk : k < n) : cl 3 [.ref r, .int (nI k)] (h, z) = some (.inl (some (.int (f k))), (h, z)) := by
  have h1 : ¬ (nI n ≤ nI k) := by rw [nI_leI (by omega) (by omega)]; omega
  have h2 : ¬ (nI k < 0) := nI_pos (by omega)
  rw [eX4_get]
  simp only [sX4_get_0, sX4_get_1, sX4_get_4, sX4_get_5, sX4_get_6, sX4_get_9, sX4_get_10, sX4_get_13, sX4_get_14, sX4_get_17, sX4_get_18, sX4_get_19, sX4_get_22, sX4_get_23, hr, ha, gf_0, ln_in, h1, h2, if_false, al_in hk hn]
theorem Row_set (hr : h r = some (obj 4 [.ref a])) (ha : h a = some (ints n f)) (hn : n ≤ 100000) {k : Nat} (hk : k < n) (x : Int32) : cl 4 [.ref r, .int (nI k), .int x] (h, z) = some (.inl none, (am_up h a (ints n (upd f k x)), z)) := by
  have h1 : ¬ (nI n ≤ nI k) := by rw [nI_leI (by omega) (by omega)]; omega
  have h2 : ¬ (nI k < 0) := nI_pos (by omega)
  rw [eX4_set]
  simp only [sX4_set_0, sX4_set_1, sX4_set_4, sX4_set_5, sX4_set_6, sX4_set_9, sX4_set_10, sX4_set_13, sX4_set_14, sX4_set_17, sX4_set_18, sX4_set_19, sX4_set_20, hr, ha, gf_0, ln_in, h1, h2, if_false, as_in hk hn, cl_nI (show k < 100001 by omega)]
theorem Row_flip (hr : h r = some (obj 4 [.ref a])) (ha : h a = some (ints n f)) (hn : n ≤ 100000) {k : Nat} (hk : k < n) (x : Int32) : cl 10 [.ref r, .int (nI k), .int x] (h, z) = some (.inl none, (am_up h a (ints n (upd f k (f k ^^^ x))), z)) := by
  rw [eX4_flip]
  simp only [sX4_flip_0, sX4_flip_1, sX4_flip_2, sX4_flip_3, sX4_flip_4, sX4_flip_7, sX4_flip_8, sX4_flip_9, sX4_flip_12, hr, ck_in, Row_get hr ha hn hk, bd_v, Option.toList, List.cons_append, List.nil_append, Row_set hr ha hn hk, List.length_cons, List.length_nil, Nat.reduceAdd, Nat.reduceLeDiff]
theorem Row_sum_l (hr : h r = some (obj 4 [.ref a])) (ha : h a = some (ints n f)) (hn : n ≤ 100000) {p m : Nat} (hpm : p + m ≤ n) : ∀ (m' p' : Nat) (s : Int32) (w5 w6 : Value), p' + m' = p + m → rn 1 5 [.ref r, .int (nI p), .int (nI m), .int s, .int (nI p'), w5, w6] [] (h, z) = some (.inl (some (.int (sm mix f p' m' s))), (h, z)) := by
  intro m'
  induction m' with
  | zero =>
    intro p' s w5 w6 he
    have h1 : nI p + nI m ≤ nI p' := by rw [nI_add, nI_leI (by omega) (by omega)]; omega
    rw [sX4_sum_5]
    simp only [sX4_sum_0, sX4_sum_1, sX4_sum_2, sX4_sum_3, sX4_sum_7, sX4_sum_8, sX4_sum_9, sX4_sum_10, sX4_sum_13, sX4_sum_15, sX4_sum_18, sX4_sum_20, sX4_sum_21, sX4_sum_24, sX4_sum_25, sX4_sum_28, sX4_sum_29, sX4_sum_32, sX4_sum_34, sX4_sum_35, sX4_sum_38, sX4_sum_39, sX4_sum_41, sX4_sum_42, sX4_sum_44, sX4_sum_45, sX4_sum_47, sX4_sum_49, sX4_sum_51, sX4_sum_52, sX4_sum_54, sX4_sum_56, sX4_sum_57, sX4_sum_58, sX4_sum_60, sX4_sum_61, sX4_sum_62, sX4_sum_65, sX4_sum_68, sX4_sum_69, h1, if_true, sm]
  | succ m' ih =>
    intro p' s w5 w6 he
    have h1 : ¬ (nI p + nI m ≤ nI p') := by rw [nI_add, nI_leI (by omega) (by omega)]; omega
    have h2 : ¬ (nI p' < 0) := nI_pos (by omega)
    have h3 : ¬ (nI n ≤ nI p') := by rw [nI_leI (by omega) (by omega)]; omega
    rw [sX4_sum_5]
    simp only [sX4_sum_0, sX4_sum_1, sX4_sum_2, sX4_sum_3, sX4_sum_7, sX4_sum_8, sX4_sum_9, sX4_sum_10, sX4_sum_13, sX4_sum_15, sX4_sum_18, sX4_sum_20, sX4_sum_21, sX4_sum_24, sX4_sum_25, sX4_sum_28, sX4_sum_29, sX4_sum_32, sX4_sum_34, sX4_sum_35, sX4_sum_38, sX4_sum_39, sX4_sum_41, sX4_sum_42, sX4_sum_44, sX4_sum_45, sX4_sum_47, sX4_sum_49, sX4_sum_51, sX4_sum_52, sX4_sum_54, sX4_sum_56, sX4_sum_57, sX4_sum_58, sX4_sum_60, sX4_sum_61, sX4_sum_62, sX4_sum_65, sX4_sum_68, sX4_sum_69, h1, h2, h3, if_false, hr, ha, gf_0, ln_in, al_in (show p' < n by omega) hn]
    rw [nI_1, sm]
    exact ih (p' + 1) (mix s (f p')) _ _ (by omega)
theorem Row_sum (hr : h r = some (obj 4 [.ref a])) (ha : h a = some (ints n f)) (hn : n ≤ 100000) {p m : Nat} (hpm : p + m ≤ n) : cl 1 [.ref r, .int (nI p), .int (nI m)] (h, z) = some (.inl (some (.int (sm mix f p m 0))), (h, z)) := by
  rw [eX4_sum]
  simp only [sX4_sum_0, sX4_sum_1, sX4_sum_2, sX4_sum_3]
  exact Row_sum_l hr ha hn hpm m p 0 _ _ rfl
theorem Row_number_l (hr : h r = some (obj 4 [.ref a])) (ha : h a = some (ints n f)) (hn : n ≤ 100000) {p k : Nat} (hk : k < 4) (hp : p + 4 ≤ n) (s : Int32) : rn 2 4 [.ref r, .int (nI p), .int s, .int (nI k)] [] (h, z) = rn 2 4 [.ref r, .int (nI p), .int (s <<< ((8 : Int32) &&& 31) ||| f (p + k)), .int (nI (k + 1))] [] (h, z) := by
  have h1 : ¬ ((4 : Int32) ≤ nI k) := by rw [show (4 : Int32) = nI 4 from rfl, nI_leI (by omega) (by omega)]; omega
  rw [sX4_number_4]
  simp only [sX4_number_0, sX4_number_1, sX4_number_2, sX4_number_3, sX4_number_5, sX4_number_6, sX4_number_9, sX4_number_10, sX4_number_12, sX4_number_13, sX4_number_14, sX4_number_15, sX4_number_16, sX4_number_17, sX4_number_20, sX4_number_21, sX4_number_22, sX4_number_25, sX4_number_28, sX4_number_29, h1, if_false, hr, ck_in, nI_add, Row_get hr ha hn (show p + k < n by omega), bd_v, Option.toList, List.cons_append, List.nil_append, List.length_cons, List.length_nil, Nat.reduceAdd, Nat.reduceLeDiff, nI_1]
theorem Row_number (hr : h r = some (obj 4 [.ref a])) (ha : h a = some (ints n f)) (hn : n ≤ 100000) {p : Nat} (hp : p + 4 ≤ n) : cl 2 [.ref r, .int (nI p)] (h, z) = some (.inl (some (.int (num f p))), (h, z)) := by
  rw [eX4_number]
  simp only [sX4_number_0, sX4_number_1, sX4_number_2, sX4_number_3]
  rw [show (0 : Int32) = nI 0 from rfl, Row_number_l hr ha hn (k := 0) (by omega) hp, Row_number_l hr ha hn (k := 1) (by omega) hp, Row_number_l hr ha hn (k := 2) (by omega) hp, Row_number_l hr ha hn (k := 3) (by omega) hp, sX4_number_4]
  simp only [sX4_number_0, sX4_number_1, sX4_number_2, sX4_number_3, sX4_number_5, sX4_number_6, sX4_number_9, sX4_number_10, sX4_number_12, sX4_number_13, sX4_number_14, sX4_number_15, sX4_number_16, sX4_number_17, sX4_number_20, sX4_number_21, sX4_number_22, sX4_number_25, sX4_number_28, sX4_number_29, show (4 : Int32) ≤ nI (3 + 1) by decide, if_true]
  rfl
theorem Row_setNumber_l (hr : h r = some (obj 4 [.ref a])) (ha : h a = some (ints n f)) (hn : n ≤ 100000) {p k : Nat} (hk : k < 4) (hp : p + 4 ≤ n) (v : Int32) : rn 6 2 [.ref r, .int (nI p), .int v, .int (nI k)] [] (h, z) = rn 6 2 [.ref r, .int (nI p), .int v, .int (nI (k + 1))] [] (am_up h a (ints n (upd f (p + k) (byt v k))), z) := by
  have h1 : ¬ ((4 : Int32) ≤ nI k) := by rw [show (4 : Int32) = nI 4 from rfl, nI_leI (by omega) (by omega)]; omega
  have h2 : (8 : Int32) * ((3 : Int32) - nI k) = nI (24 - 8 * k) := by
    rw [show (3 : Int32) = nI 3 from rfl, show (8 : Int32) = nI 8 from rfl, pk_sub (by omega), pk_mul]
    congr 1
    omega
  rw [sX4_setNumber_2]
  simp only [sX4_setNumber_0, sX4_setNumber_1, sX4_setNumber_3, sX4_setNumber_4, sX4_setNumber_7, sX4_setNumber_8, sX4_setNumber_9, sX4_setNumber_10, sX4_setNumber_11, sX4_setNumber_12, sX4_setNumber_14, sX4_setNumber_15, sX4_setNumber_16, sX4_setNumber_17, sX4_setNumber_18, sX4_setNumber_19, sX4_setNumber_22, sX4_setNumber_23, sX4_setNumber_26, sX4_setNumber_29, sX4_setNumber_32, h1, if_false, hr, ck_in, nI_add, h2, Row_set hr ha hn (show p + k < n by omega), bd_v, Option.toList, List.cons_append, List.nil_append, List.length_cons, List.length_nil, Nat.reduceAdd, Nat.reduceLeDiff, nI_1]
  rfl
theorem Row_setNumber (hr : h r = some (obj 4 [.ref a])) (ha : h a = some (ints n f)) (hn : n ≤ 100000) {p : Nat} (hp : p + 4 ≤ n) (v : Int32) : cl 6 [.ref r, .int (nI p), .int v] (h, z) = some (.inl none, (am_up h a (ints n (putn f p v)), z)) := by
  have hra := ne_oa hr ha
  rw [eX4_setNumber]
  simp only [sX4_setNumber_0, sX4_setNumber_1]
  rw [show (0 : Int32) = nI 0 from rfl, Row_setNumber_l hr ha hn (k := 0) (by omega) hp, Row_setNumber_l (k := 1) (by rw [up_n hra]; exact hr) (up_s _ _ _) hn (by omega) hp, up_up, Row_setNumber_l (k := 2) (by rw [up_n hra]; exact hr) (up_s _ _ _) hn (by omega) hp, up_up, Row_setNumber_l (k := 3) (by rw [up_n hra]; exact hr) (up_s _ _ _) hn (by omega) hp, up_up, sX4_setNumber_2]
  simp only [sX4_setNumber_0, sX4_setNumber_1, sX4_setNumber_3, sX4_setNumber_4, sX4_setNumber_7, sX4_setNumber_8, sX4_setNumber_9, sX4_setNumber_10, sX4_setNumber_11, sX4_setNumber_12, sX4_setNumber_14, sX4_setNumber_15, sX4_setNumber_16, sX4_setNumber_17, sX4_setNumber_18, sX4_setNumber_19, sX4_setNumber_22, sX4_setNumber_23, sX4_setNumber_26, sX4_setNumber_29, sX4_setNumber_32, show (4 : Int32) ≤ nI (3 + 1) by decide, if_true]
  rfl
/-- two rows compared -/
theorem Row_isSame_l {r' a' n' : Nat} {g : Nat → Int32} (hr : h r = some (obj 4 [.ref a])) (ha : h a = some (ints n f)) (hn : n ≤ 100000) (hr' : h r' = some (obj 4 [.ref a'])) (ha' : h a' = some (ints n' g)) (hn' : n' ≤ 100000) {p q m : Nat} (hp : p + m ≤ n) (hq : q + m ≤ n') : ∀ (m' k : Nat), k + m' = m →
    rn 5 3 [.ref r, .int (nI p), .ref r', .int (nI q), .int (nI m), .int (nI k)] [] (h, z) = some (.inl (some (.int (if ∀ i, i < m → k ≤ i → f (p + i) = g (q + i) then 1 else 0))), (h, z)) := by
  intro m'
  induction m' with
  | zero =>
    intro k hk
    have h1 : nI m ≤ nI k := by rw [nI_leI (by omega) (by omega)]; omega
    rw [sX4_isSame_3]
    simp only [sX4_isSame_0, sX4_isSame_1, sX4_isSame_5, sX4_isSame_7, sX4_isSame_10, sX4_isSame_11, sX4_isSame_12, sX4_isSame_14, sX4_isSame_15, sX4_isSame_18, sX4_isSame_19, sX4_isSame_20, sX4_isSame_22, sX4_isSame_23, sX4_isSame_26, sX4_isSame_29, sX4_isSame_30, sX4_isSame_30t, sX4_isSame_31, sX4_isSame_34, sX4_isSame_37, sX4_isSame_38, sX4_isSame_38t, h1, if_true]
    rw [if_pos (fun i h1 h2 => by omega)]
  | succ m' ih =>
    intro k hk
    have h1 : ¬ (nI m ≤ nI k) := by rw [nI_leI (by omega) (by omega)]; omega
    rw [sX4_isSame_3]
    simp only [sX4_isSame_0, sX4_isSame_1, sX4_isSame_5, sX4_isSame_7, sX4_isSame_10, sX4_isSame_11, sX4_isSame_12, sX4_isSame_14, sX4_isSame_15, sX4_isSame_18, sX4_isSame_19, sX4_isSame_20, sX4_isSame_22, sX4_isSame_23, sX4_isSame_26, sX4_isSame_29, sX4_isSame_30, sX4_isSame_30t, sX4_isSame_31, sX4_isSame_34, sX4_isSame_37, sX4_isSame_38, sX4_isSame_38t, h1, if_false, hr, hr', ck_in, nI_add, Row_get hr ha hn (show p + k < n by omega), Row_get hr' ha' hn' (show q + k < n' by omega), bd_v, Option.toList, List.cons_append, List.nil_append, List.length_cons, List.length_nil, Nat.reduceAdd, Nat.reduceLeDiff, nI_1]
    rw [ih (k + 1) (by omega)]
    by_cases h2 : f (p + k) = g (q + k)
    · rw [if_pos h2]
      by_cases h3 : ∀ i, i < m → k + 1 ≤ i → f (p + i) = g (q + i)
      · rw [if_pos h3, if_pos (fun i h5 h4 => by
          rcases Nat.eq_or_lt_of_le h4 with rfl | h6
          · exact h2
          · exact h3 i h5 h6)]
      · rw [if_neg h3, if_neg (fun h4 => h3 (fun i h6 h5 => h4 i h6 (by omega)))]
    · rw [if_neg h2, if_neg (fun h4 => h2 (h4 k (by omega) (Nat.le_refl k)))]
theorem Row_isSame {r' a' n' : Nat} {g : Nat → Int32} (hr : h r = some (obj 4 [.ref a])) (ha : h a = some (ints n f)) (hn : n ≤ 100000) (hr' : h r' = some (obj 4 [.ref a'])) (ha' : h a' = some (ints n' g)) (hn' : n' ≤ 100000) {p q m : Nat} (hp : p + m ≤ n) (hq : q + m ≤ n') :
    cl 5 [.ref r, .int (nI p), .ref r', .int (nI q), .int (nI m)] (h, z) = some (.inl (some (.int (if ∀ i, i < m → f (p + i) = g (q + i) then 1 else 0))), (h, z)) := by
  rw [eX4_isSame]
  simp only [sX4_isSame_0, sX4_isSame_1]
  rw [show (0 : Int32) = nI 0 from rfl, Row_isSame_l hr ha hn hr' ha' hn' hp hq m 0 (by omega)]
  simp only [Nat.zero_le, true_implies]
  rfl
theorem cpy_s {g f : Nat → Int32} {q p k : Nat} : upd (cpy g f q p k) (p + k) (g (q + k)) = cpy g f q p (k + 1) := by
  funext j
  unfold upd cpy
  by_cases h1 : j = p + k
  · subst h1
    rw [if_pos rfl, if_pos ⟨by omega, by omega⟩]
    congr 1
    omega
  · rw [if_neg h1]
    by_cases h2 : p ≤ j ∧ j < p + k
    · rw [if_pos h2, if_pos ⟨h2.1, by omega⟩]
    · rw [if_neg h2, if_neg (fun h3 => h2 ⟨h3.1, by omega⟩)]
theorem cpy_0 {g f : Nat → Int32} {q p : Nat} : cpy g f q p 0 = f := by
  funext j
  unfold cpy
  rw [if_neg (by omega)]
/-- a part of another row (or of a part of this one that lies ahead) comes here -/
theorem Row_copyPart_l {r' a' n' : Nat} {g : Nat → Int32} (hr : h r = some (obj 4 [.ref a])) (hn : n ≤ 100000) (hr' : h r' = some (obj 4 [.ref a'])) (hn' : n' ≤ 100000) (hra : r ≠ a) (hra' : r' ≠ a) {p q m : Nat} (hp : p + m ≤ n) (hq : q + m ≤ n')
    (hg : ∀ k, k < m → ∃ g', am_up h a (ints n (cpy g f q p k)) a' = some (ints n' g') ∧ g' (q + k) = g (q + k)) : ∀ (m' k : Nat), k + m' = m →
    rn 7 3 [.ref r, .int (nI p), .ref r', .int (nI q), .int (nI m), .int (nI k)] [] (am_up h a (ints n (cpy g f q p k)), z) = some (.inl none, (am_up h a (ints n (cpy g f q p m)), z)) := by
  intro m'
  induction m' with
  | zero =>
    intro k hk
    have h1 : nI m ≤ nI k := by rw [nI_leI (by omega) (by omega)]; omega
    rw [sX4_copyPart_3]
    simp only [sX4_copyPart_0, sX4_copyPart_1, sX4_copyPart_5, sX4_copyPart_7, sX4_copyPart_10, sX4_copyPart_11, sX4_copyPart_12, sX4_copyPart_14, sX4_copyPart_15, sX4_copyPart_16, sX4_copyPart_17, sX4_copyPart_19, sX4_copyPart_20, sX4_copyPart_23, sX4_copyPart_26, sX4_copyPart_29, sX4_copyPart_32, h1, if_true]
    rw [show k = m by omega]
  | succ m' ih =>
    intro k hk
    have h1 : ¬ (nI m ≤ nI k) := by rw [nI_leI (by omega) (by omega)]; omega
    obtain ⟨g', hg1, hg2⟩ := hg k (by omega)
    have e1 : am_up h a (ints n (cpy g f q p k)) r = some (obj 4 [.ref a]) := by rw [up_n hra]; exact hr
    have e2 : am_up h a (ints n (cpy g f q p k)) r' = some (obj 4 [.ref a']) := by rw [up_n hra']; exact hr'
    rw [sX4_copyPart_3]
    simp only [sX4_copyPart_0, sX4_copyPart_1, sX4_copyPart_5, sX4_copyPart_7, sX4_copyPart_10, sX4_copyPart_11, sX4_copyPart_12, sX4_copyPart_14, sX4_copyPart_15, sX4_copyPart_16, sX4_copyPart_17, sX4_copyPart_19, sX4_copyPart_20, sX4_copyPart_23, sX4_copyPart_26, sX4_copyPart_29, sX4_copyPart_32, h1, if_false, e1, e2, ck_in, nI_add, Row_get e2 hg1 hn' (show q + k < n' by omega), bd_v, Option.toList, List.cons_append, List.nil_append, List.length_cons, List.length_nil, Nat.reduceAdd, Nat.reduceLeDiff, nI_1, Row_set e1 (up_s _ _ _) hn (show p + k < n by omega), up_up]
    rw [hg2, cpy_s]
    exact ih (k + 1) (by omega)
theorem Row_copyPart {r' a' n' : Nat} {g : Nat → Int32} (hr : h r = some (obj 4 [.ref a])) (ha : h a = some (ints n f)) (hn : n ≤ 100000) (hr' : h r' = some (obj 4 [.ref a'])) (ha' : h a' = some (ints n' g)) (hn' : n' ≤ 100000) (hne : a' ≠ a) {p q m : Nat} (hp : p + m ≤ n) (hq : q + m ≤ n') :
    cl 7 [.ref r, .int (nI p), .ref r', .int (nI q), .int (nI m)] (h, z) = some (.inl none, (am_up h a (ints n (cpy g f q p m)), z)) := by
  have := Row_copyPart_l (z := z) (f := f) (g := g) hr hn hr' hn' (ne_oa hr ha) (ne_oa hr' ha) hp hq (fun k hk => ⟨g, by rw [up_n hne]; exact ha', rfl⟩) m 0 (by omega)
  rw [cpy_0, up_self ha] at this
  rw [eX4_copyPart]
  simp only [sX4_copyPart_0, sX4_copyPart_1]
  exact this
theorem Row_copySelf (hr : h r = some (obj 4 [.ref a])) (ha : h a = some (ints n f)) (hn : n ≤ 100000) {p q m : Nat} (hp : p + m ≤ n) (hq : q + m ≤ p) :
    cl 7 [.ref r, .int (nI p), .ref r, .int (nI q), .int (nI m)] (h, z) = some (.inl none, (am_up h a (ints n (cpy f f q p m)), z)) := by
  have := Row_copyPart_l (z := z) (f := f) (g := f) (n' := n) (q := q) hr hn hr hn (ne_oa hr ha) (ne_oa hr ha) hp (by omega) (fun k hk => ⟨_, up_s _ _ _, by unfold cpy; rw [if_neg (by omega)]⟩) m 0 (by omega)
  rw [cpy_0, up_self ha] at this
  rw [eX4_copyPart]
  simp only [sX4_copyPart_0, sX4_copyPart_1]
  exact this
end
