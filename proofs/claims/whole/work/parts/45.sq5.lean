/-! Alterations; the whole object -/
def nzc (M : Nat → Int32) : Nat → Nat
  | 0 => 0
  | N + 1 => nzc M N + (if M N = 0 then 0 else 1)
theorem nzc_le (M : Nat → Int32) : ∀ N, nzc M N ≤ N
  | 0 => Nat.le_refl 0
  | N + 1 => by
    have := nzc_le M N
    rw [nzc]
    by_cases h : M N = 0
    · rw [if_pos h]; omega
    · rw [if_neg h]; omega
theorem nzc_zero (M : Nat → Int32) : ∀ N, nzc M N = 0 ↔ ∀ j, j < N → M j = 0
  | 0 => ⟨fun _ j hj => by omega, fun _ => rfl⟩
  | N + 1 => by
    have ih := nzc_zero M N
    rw [nzc]
    constructor
    · intro h j hj
      by_cases e : M N = 0
      · rw [if_pos e] at h
        by_cases e2 : j = N
        · rw [e2]; exact e
        · exact ih.mp (by omega) j (by omega)
      · rw [if_neg e] at h; omega
    · intro h
      rw [if_pos (h N (by omega)), ih.mpr (fun j hj => h j (by omega))]
theorem nzc_congr {M M' : Nat → Int32} : ∀ N, (∀ j, j < N → M j = M' j) → nzc M N = nzc M' N
  | 0, _ => rfl
  | N + 1, h => by rw [nzc, nzc, nzc_congr N (fun j hj => h j (by omega)), h N (by omega)]
theorem upd_s {f : Nat → Int32} {k : Nat} {x : Int32} : upd f k x k = x := by unfold upd; rw [if_pos rfl]
theorem upd_n {f : Nat → Int32} {k j : Nat} {x : Int32} (h : j ≠ k) : upd f k x j = f j := by unfold upd; rw [if_neg h]
theorem nzc_upd {M : Nat → Int32} {k : Nat} {x : Int32} : ∀ N, k < N → nI (nzc (upd M k x) N) = nI (nzc M N) + ((if x = 0 then 0 else 1) - (if M k = 0 then 0 else 1))
  | 0, h => by omega
  | N + 1, h => by
    rw [nzc, nzc]
    by_cases e : k = N
    · subst e
      rw [nzc_congr (M := upd M k x) (M' := M) k (fun j hj => upd_n (by omega)), upd_s]
      by_cases h1 : x = 0 <;> by_cases h2 : M k = 0 <;> simp only [h1, h2, if_true, if_false, Nat.add_zero]
      · rw [show (0 : Int32) - 0 = 0 by decide, Int32.add_zero]
      · rw [← nI_add (nzc M k) 1, Int32.add_assoc, show nI 1 + ((0 : Int32) - 1) = 0 by decide, Int32.add_zero]
      · rw [← nI_add (nzc M k) 1]; rfl
      · rw [show (1 : Int32) - 1 = 0 by decide, Int32.add_zero]
    · rw [upd_n (fun z => e z.symm), ← nI_add, ← nI_add, nzc_upd N (by omega), Int32.add_assoc, Int32.add_assoc]
      congr 1
      rw [Int32.add_comm]
def AlL (h : Nat → Option va_E) (a n : Nat) (M : Nat → Int32) : Prop := h a = some (obj 0 [.ref (a + 1), .int (nI (nzc M (64 * n)))]) ∧ h (a + 1) = some (obj 4 [.ref (a + 2)]) ∧ h (a + 2) = some (ints (64 * n) M)
section
variable {h : Nat → Option va_E} {z : Nat × Nat × Nat} {a n : Nat} {M : Nat → Int32}
theorem Al_any (hn : n ≤ 40) (c : AlL h a n M) : cl 22 [.ref a] (h, z) = some (.inl (some (.int (if nzc M (64 * n) = 0 then 0 else 1))), (h, z)) := by
  have hl := nzc_le M (64 * n)
  have e : (nI (nzc M (64 * n)) = 0) ↔ nzc M (64 * n) = 0 := nI_eq (b := 0) (by omega) (by omega)
  rw [eX0_any]
  by_cases q : nzc M (64 * n) = 0
  · rw [if_pos q]
    simp only [sX0_any_0, sX0_any_1, sX0_any_4, sX0_any_7, sX0_any_8, sX0_any_11, sX0_any_12, sX0_any_12t, c.1, gf_0, gf_1, gf_2, gf_3, gf_4, gf_5, pf_0, pf_1, pf_2, pf_3, pf_4, pf_5, List.set_cons_zero, List.set_cons_succ, bd_v, bi_v, Option.toList, List.cons_append, List.nil_append, List.length_cons, List.length_nil, Nat.reduceAdd, Nat.reduceLeDiff, ck_in, nI_add, nI_1, if_false, if_true, e.mpr q]
  · rw [if_neg q]
    simp only [sX0_any_0, sX0_any_1, sX0_any_4, sX0_any_7, sX0_any_8, sX0_any_11, sX0_any_12, sX0_any_12t, c.1, gf_0, gf_1, gf_2, gf_3, gf_4, gf_5, pf_0, pf_1, pf_2, pf_3, pf_4, pf_5, List.set_cons_zero, List.set_cons_succ, bd_v, bi_v, Option.toList, List.cons_append, List.nil_append, List.length_cons, List.length_nil, Nat.reduceAdd, Nat.reduceLeDiff, ck_in, nI_add, nI_1, if_false, if_true, mt e.mp q]
theorem Al_clear (hn : n ≤ 40) (c : AlL h a n M) : ∃ h', cl 23 [.ref a] (h, z) = some (.inl none, (h', z)) ∧ AlL h' a n (fun j => if j < 64 * n then 0 else M j) ∧ fre [a, a + 2] h h' := by
  have cl1 := Row_clear (z := z) c.2.1 c.2.2 (by omega)
  refine ⟨am_up (am_up h (a + 2) (ints (64 * n) (fun j => if j < 64 * n then 0 else M j))) a (obj 0 [.ref (a + 1), .int 0]), ?_, ⟨?_, ?_, ?_⟩, (fre.u (by simp)).t (fre.u (by simp))⟩
  · rw [eX0_clear]
    simp only [sX0_clear_0, sX0_clear_1, sX0_clear_4, sX0_clear_7, sX0_clear_8, sX0_clear_9, sX0_clear_12, c.1, c.2.1, gf_0, gf_1, gf_2, gf_3, gf_4, gf_5, pf_0, pf_1, pf_2, pf_3, pf_4, pf_5, List.set_cons_zero, List.set_cons_succ, bd_v, bi_v, Option.toList, List.cons_append, List.nil_append, List.length_cons, List.length_nil, Nat.reduceAdd, Nat.reduceLeDiff, ck_in, nI_add, nI_1, if_false, if_true, cl1, up_n (show a ≠ a + 2 by omega)]
  · rw [(nzc_zero _ _).mpr (fun j hj => if_pos hj)]; exact up_s _ _ _
  · rw [up_n (by omega), up_n (by omega)]; exact c.2.1
  · rw [up_n (by omega)]; exact up_s _ _ _
theorem Al_flip (hn : n ≤ 40) (c : AlL h a n M) {p i : Nat} (hp : p < n) (hi : i < 64) (x : Int32) : ∃ h', cl 24 [.ref a, .int (nI p), .int (nI i), .int x] (h, z) = some (.inl none, (h', z)) ∧ AlL h' a n (upd M (64 * p + i) (M (64 * p + i) ^^^ x)) ∧ fre [a, a + 2] h h' := by
  have e1 : nI p * (64 : Int32) + nI i = nI (64 * p + i) := by rw [show (64 : Int32) = nI 64 from rfl, pk_mul, nI_add, Nat.mul_comm]
  have hk : 64 * p + i < 64 * n := by omega
  have hg := Row_get (z := z) c.2.1 c.2.2 (by omega) hk
  have hs := Row_set (z := z) c.2.1 c.2.2 (by omega) hk (M (64 * p + i) ^^^ x)
  have hm : cl 25 [.ref a, .int (nI p), .int (nI i)] (h, z) = some (.inl (some (.int (M (64 * p + i)))), (h, z)) := by
    rw [eX0_maskOf]
    simp only [sX0_maskOf_0, sX0_maskOf_1, sX0_maskOf_4, sX0_maskOf_5, sX0_maskOf_7, sX0_maskOf_8, sX0_maskOf_9, sX0_maskOf_10, sX0_maskOf_13, c.1, c.2.1, gf_0, gf_1, gf_2, gf_3, gf_4, gf_5, pf_0, pf_1, pf_2, pf_3, pf_4, pf_5, List.set_cons_zero, List.set_cons_succ, bd_v, Option.toList, List.cons_append, List.nil_append, List.length_cons, List.length_nil, Nat.reduceAdd, Nat.reduceLeDiff, ck_in, e1, hg]
  have hz := nzc_upd (M := M) (x := M (64 * p + i) ^^^ x) (64 * n) hk
  refine ⟨am_up (am_up h (a + 2) (ints (64 * n) (upd M (64 * p + i) (M (64 * p + i) ^^^ x)))) a (obj 0 [.ref (a + 1), .int (nI (nzc (upd M (64 * p + i) (M (64 * p + i) ^^^ x)) (64 * n)))]), ?_, ⟨up_s _ _ _, ?_, ?_⟩, (fre.u (by simp)).t (fre.u (by simp))⟩
  · rw [hz, eX0_flip]
    by_cases q1 : M (64 * p + i) ^^^ x = 0 <;> by_cases q2 : M (64 * p + i) = 0
    · simp only [sX0_flip_0, sX0_flip_1, sX0_flip_2, sX0_flip_3, sX0_flip_6, sX0_flip_8, sX0_flip_10, sX0_flip_11, sX0_flip_12, sX0_flip_14, sX0_flip_15, sX0_flip_18, sX0_flip_19, sX0_flip_21, sX0_flip_22, sX0_flip_23, sX0_flip_24, sX0_flip_26, sX0_flip_29, sX0_flip_30, sX0_flip_30i, sX0_flip_31, sX0_flip_34, sX0_flip_36, sX0_flip_39, sX0_flip_40, sX0_flip_43, sX0_flip_44, sX0_flip_46, sX0_flip_49, sX0_flip_50, sX0_flip_53, sX0_flip_54, sX0_flip_55, sX0_flip_56, sX0_flip_59, c.1, c.2.1, gf_0, gf_1, gf_2, gf_3, gf_4, gf_5, pf_0, pf_1, pf_2, pf_3, pf_4, pf_5, List.set_cons_zero, List.set_cons_succ, bd_v, Option.toList, List.cons_append, List.nil_append, List.length_cons, List.length_nil, Nat.reduceAdd, Nat.reduceLeDiff, ck_in, e1, hm, hs, up_n (show a ≠ a + 2 by omega)]
      rw [if_neg (by exact fun z => z q1), if_pos q1]
      rw [if_neg (by exact fun z => z q2), if_pos q2]
    · simp only [sX0_flip_0, sX0_flip_1, sX0_flip_2, sX0_flip_3, sX0_flip_6, sX0_flip_8, sX0_flip_10, sX0_flip_11, sX0_flip_12, sX0_flip_14, sX0_flip_15, sX0_flip_18, sX0_flip_19, sX0_flip_21, sX0_flip_22, sX0_flip_23, sX0_flip_24, sX0_flip_26, sX0_flip_29, sX0_flip_30, sX0_flip_30i, sX0_flip_31, sX0_flip_34, sX0_flip_36, sX0_flip_39, sX0_flip_40, sX0_flip_43, sX0_flip_44, sX0_flip_46, sX0_flip_49, sX0_flip_50, sX0_flip_53, sX0_flip_54, sX0_flip_55, sX0_flip_56, sX0_flip_59, c.1, c.2.1, gf_0, gf_1, gf_2, gf_3, gf_4, gf_5, pf_0, pf_1, pf_2, pf_3, pf_4, pf_5, List.set_cons_zero, List.set_cons_succ, bd_v, Option.toList, List.cons_append, List.nil_append, List.length_cons, List.length_nil, Nat.reduceAdd, Nat.reduceLeDiff, ck_in, e1, hm, hs, up_n (show a ≠ a + 2 by omega)]
      rw [if_neg (by exact fun z => z q1), if_pos q1]
      rw [if_pos q2, if_neg q2]
    · simp only [sX0_flip_0, sX0_flip_1, sX0_flip_2, sX0_flip_3, sX0_flip_6, sX0_flip_8, sX0_flip_10, sX0_flip_11, sX0_flip_12, sX0_flip_14, sX0_flip_15, sX0_flip_18, sX0_flip_19, sX0_flip_21, sX0_flip_22, sX0_flip_23, sX0_flip_24, sX0_flip_26, sX0_flip_29, sX0_flip_30, sX0_flip_30i, sX0_flip_31, sX0_flip_34, sX0_flip_36, sX0_flip_39, sX0_flip_40, sX0_flip_43, sX0_flip_44, sX0_flip_46, sX0_flip_49, sX0_flip_50, sX0_flip_53, sX0_flip_54, sX0_flip_55, sX0_flip_56, sX0_flip_59, c.1, c.2.1, gf_0, gf_1, gf_2, gf_3, gf_4, gf_5, pf_0, pf_1, pf_2, pf_3, pf_4, pf_5, List.set_cons_zero, List.set_cons_succ, bd_v, Option.toList, List.cons_append, List.nil_append, List.length_cons, List.length_nil, Nat.reduceAdd, Nat.reduceLeDiff, ck_in, e1, hm, hs, up_n (show a ≠ a + 2 by omega)]
      rw [if_pos q1, if_neg q1]
      rw [if_neg (by exact fun z => z q2), if_pos q2]
    · simp only [sX0_flip_0, sX0_flip_1, sX0_flip_2, sX0_flip_3, sX0_flip_6, sX0_flip_8, sX0_flip_10, sX0_flip_11, sX0_flip_12, sX0_flip_14, sX0_flip_15, sX0_flip_18, sX0_flip_19, sX0_flip_21, sX0_flip_22, sX0_flip_23, sX0_flip_24, sX0_flip_26, sX0_flip_29, sX0_flip_30, sX0_flip_30i, sX0_flip_31, sX0_flip_34, sX0_flip_36, sX0_flip_39, sX0_flip_40, sX0_flip_43, sX0_flip_44, sX0_flip_46, sX0_flip_49, sX0_flip_50, sX0_flip_53, sX0_flip_54, sX0_flip_55, sX0_flip_56, sX0_flip_59, c.1, c.2.1, gf_0, gf_1, gf_2, gf_3, gf_4, gf_5, pf_0, pf_1, pf_2, pf_3, pf_4, pf_5, List.set_cons_zero, List.set_cons_succ, bd_v, Option.toList, List.cons_append, List.nil_append, List.length_cons, List.length_nil, Nat.reduceAdd, Nat.reduceLeDiff, ck_in, e1, hm, hs, up_n (show a ≠ a + 2 by omega)]
      rw [if_pos q1, if_neg q1]
      rw [if_pos q2, if_neg q2]
  · rw [up_n (by omega), up_n (by omega)]; exact c.2.1
  · rw [up_n (by omega)]; exact up_s _ _ _
end
theorem Al_init {h : Nat → Option va_E} {b n k t : Nat} (hn : n ≤ 40) (hr : h b = some (obj 0 [.null, .int 0])) : ∃ h', cl 21 [.ref b, .int (nI n)] (h, b + 1, k, t) = some (.inl none, (h', b + 3, k + 2, t + 1 + 64 * n)) ∧ AlL h' b n (fun _ => 0) ∧ fre [b, b + 1, b + 2] h h' := by
  have c := Row_init (h := am_up (am_up h b (obj 0 [.null, .int 0])) (b + 1) (obj 4 [.null])) (q := b + 1) (k := k + 1) (s := t + 1) (m := 64 * n) (up_s _ _ _) (by omega) (by omega)
  have e1 : nI n * (64 : Int32) = nI (64 * n) := by rw [show (64 : Int32) = nI 64 from rfl, pk_mul, Nat.mul_comm]
  refine ⟨am_up (am_up (am_up (am_up (am_up h b (obj 0 [.null, .int 0])) (b + 1) (obj 4 [.null])) (b + 1 + 1) (ints (64 * n) (fun _ => 0))) (b + 1) (obj 4 [.ref (b + 1 + 1)])) b (obj 0 [.ref (b + 1), .int 0]), ?_, ⟨?_, ?_, ?_⟩, ?_⟩
  · rw [eX0_init]
    simp only [sX0_init_0, sX0_init_1, sX0_init_4, sX0_init_5, sX0_init_6, sX0_init_9, sX0_init_10, sX0_init_13, sX0_init_13i, sX0_init_14, sX0_init_15, sX0_init_17, sX0_init_18, sX0_init_21, sX0_init_24, bd_v, bi_v, Option.toList, List.cons_append, List.nil_append, List.length_cons, List.length_nil, Nat.reduceAdd, Nat.reduceLeDiff, ck_in, nI_add, nI_1, if_false, if_true, hr, gf_0, gf_1, gf_2, gf_3, gf_4, gf_5, pf_0, pf_1, pf_2, pf_3, pf_4, pf_5, List.set_cons_zero, List.set_cons_succ, e1]
    rw [c]
    simp only [sX0_init_0, sX0_init_1, sX0_init_4, sX0_init_5, sX0_init_6, sX0_init_9, sX0_init_10, sX0_init_13, sX0_init_13i, sX0_init_14, sX0_init_15, sX0_init_17, sX0_init_18, sX0_init_21, sX0_init_24, bd_v, bi_v, Option.toList, List.cons_append, List.nil_append, List.length_cons, List.length_nil, Nat.reduceAdd, Nat.reduceLeDiff, ck_in, nI_add, nI_1, if_false, if_true, up_n (show b ≠ b + 1 by omega), up_n (show b ≠ b + 1 + 1 by omega), gf_0, gf_1, gf_2, gf_3, gf_4, gf_5, pf_0, pf_1, pf_2, pf_3, pf_4, pf_5, List.set_cons_zero, List.set_cons_succ, up_s, up_up]
  · rw [(nzc_zero _ _).mpr (fun j hj => rfl)]; exact up_s _ _ _
  · rw [up_n (by omega)]; exact up_s _ _ _
  · rw [up_n (by omega), up_n (by omega)]; exact up_s _ _ _
  · exact ((((fre.u (by simp)).t (fre.u (by simp))).t (fre.u (by simp))).t (fre.u (by simp))).t (fre.u (by simp))
