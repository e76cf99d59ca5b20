/-! what constructors make: pages, names, shelves -/
theorem mix00 : mix 0 0 = 0 := by decide +kernel
theorem sm_zero : ∀ (m p : Nat), sm mix (fun _ => 0) p m 0 = 0
  | 0, _ => rfl
  | m + 1, p => by rw [sm, mix00]; exact sm_zero m (p + 1)
theorem byt0 : ∀ k, k < 4 → byt 0 k = 0 := by decide +kernel
theorem pgF_new : pgF 0 [] = fun _ => 0 := by
  have e : pgG 0 [] (fun _ => 0) = fun _ => 0 := by
    funext j
    unfold pgG
    by_cases h : j < 60
    · rw [if_pos h]
      by_cases h0 : j = 0
      · rw [if_pos h0]; rfl
      · rw [if_neg h0]
        by_cases h1 : j = 1
        · rw [if_pos h1]; rfl
        · rw [if_neg h1]; simp [encs]
    · rw [if_neg h]
  unfold pgF sealb
  rw [e, sm_zero]
  funext j
  by_cases h : 60 ≤ j ∧ j < 64
  · have := putn_at (f := fun _ => 0) (p := 60) (v := 0) (k := j - 60) (by omega)
    rw [show 60 + (j - 60) = j by omega] at this
    rw [this, byt0 _ (by omega)]
  · rw [putn_out (by omega)]
section
variable {h : Nat → Option va_E} {b k t : Nat}
theorem Page_init (hr : h b = some (obj 3 [.null, .int 0])) : ∃ h', cl 37 [.ref b] (h, b + 1, k, t) = some (.inl none, (h', b + 3, k + 2, t + 65)) ∧ PgL h' b (fun _ => 0) 2 ∧ fre [b, b + 1, b + 2] h h' := by
  have c := Row_init (h := am_up h (b + 1) (obj 4 [.null])) (q := b + 1) (k := k + 1) (s := t + 1) (m := 64) (up_s _ _ _) (by omega) (by omega)
  rw [show nI 64 = (64 : Int32) from rfl] at c
  refine ⟨am_up (am_up (am_up (am_up h (b + 1) (obj 4 [.null])) (b + 1 + 1) (ints 64 (fun _ => 0))) (b + 1) (obj 4 [.ref (b + 1 + 1)])) b (obj 3 [.ref (b + 1), .int 2]), ?_, ⟨up_s _ _ _, ?_, ?_⟩, ?_⟩
  · rw [eX3_init]
    simp only [sX3_init_0, sX3_init_1, sX3_init_4, sX3_init_5, sX3_init_8, sX3_init_8i, sX3_init_9, sX3_init_11, sX3_init_14, sX3_init_17, sX3_init_18, sX3_init_19, sX3_init_22, bd_v, bi_v, Option.toList, List.cons_append, List.nil_append, List.length_cons, List.length_nil, Nat.reduceAdd, Nat.reduceLeDiff, ck_in, nI_add, nI_1, if_false, if_true]
    rw [c]
    simp only [sX3_init_0, sX3_init_1, sX3_init_4, sX3_init_5, sX3_init_8, sX3_init_8i, sX3_init_9, sX3_init_11, sX3_init_14, sX3_init_17, sX3_init_18, sX3_init_19, sX3_init_22, bd_v, bi_v, Option.toList, List.cons_append, List.nil_append, List.length_cons, List.length_nil, Nat.reduceAdd, Nat.reduceLeDiff, ck_in, nI_add, nI_1, if_false, if_true, up_n (show b ≠ b + 1 by omega), up_n (show b ≠ b + 1 + 1 by omega), hr, gf_0, gf_1, gf_2, gf_3, gf_4, gf_5, pf_0, pf_1, pf_2, pf_3, pf_4, pf_5, List.set_cons_zero, List.set_cons_succ, up_s, up_up]
  · rw [up_n (by omega)]; exact up_s _ _ _
  · rw [up_n (by omega), up_n (by omega)]; exact up_s _ _ _
  · exact (((fre.u (by simp)).t (fre.u (by simp))).t (fre.u (by simp))).t (fre.u (by simp))
theorem Name_init (hr : h b = some (obj 2 [.null, .int 0])) : ∃ h', cl 11 [.ref b] (h, b + 1, k, t) = some (.inl none, (h', b + 3, k + 2, t + 13)) ∧ NameAt h' b (b + 1) (b + 2) 0 (fun _ => 0) ∧ fre [b, b + 1, b + 2] h h' := by
  have c := Row_init (h := am_up h (b + 1) (obj 4 [.null])) (q := b + 1) (k := k + 1) (s := t + 1) (m := 12) (up_s _ _ _) (by omega) (by omega)
  rw [show nI 12 = (12 : Int32) from rfl] at c
  refine ⟨am_up (am_up (am_up (am_up h (b + 1) (obj 4 [.null])) (b + 1 + 1) (ints 12 (fun _ => 0))) (b + 1) (obj 4 [.ref (b + 1 + 1)])) b (obj 2 [.ref (b + 1), .int 0]), ?_, ⟨up_s _ _ _, ?_, ?_, by omega⟩, ?_⟩
  · rw [eX2_init]
    simp only [sX2_init_0, sX2_init_1, sX2_init_4, sX2_init_5, sX2_init_8, sX2_init_8i, sX2_init_9, sX2_init_11, sX2_init_14, sX2_init_17, sX2_init_18, sX2_init_19, sX2_init_22, bd_v, bi_v, Option.toList, List.cons_append, List.nil_append, List.length_cons, List.length_nil, Nat.reduceAdd, Nat.reduceLeDiff, ck_in, nI_add, nI_1, if_false, if_true]
    rw [c]
    simp only [sX2_init_0, sX2_init_1, sX2_init_4, sX2_init_5, sX2_init_8, sX2_init_8i, sX2_init_9, sX2_init_11, sX2_init_14, sX2_init_17, sX2_init_18, sX2_init_19, sX2_init_22, bd_v, bi_v, Option.toList, List.cons_append, List.nil_append, List.length_cons, List.length_nil, Nat.reduceAdd, Nat.reduceLeDiff, ck_in, nI_add, nI_1, if_false, if_true, up_n (show b ≠ b + 1 by omega), up_n (show b ≠ b + 1 + 1 by omega), hr, gf_0, gf_1, gf_2, gf_3, gf_4, gf_5, pf_0, pf_1, pf_2, pf_3, pf_4, pf_5, List.set_cons_zero, List.set_cons_succ, up_s, up_up]
  · rw [up_n (by omega)]; exact up_s _ _ _
  · rw [up_n (by omega), up_n (by omega)]; exact up_s _ _ _
  · exact (((fre.u (by simp)).t (fre.u (by simp))).t (fre.u (by simp))).t (fre.u (by simp))
end
theorem bi_c {X : Option am_R} {v : Option Value} {σ : am_S} {K : Option Value → am_S → Option am_R} (h : X = some (.inl v, σ)) : am_bi X K = K v σ := by rw [h]; rfl
theorem rs_in {n k : Nat} {g : Nat → Option Nat} {fs : List Value} {K : Nat → (Nat → Option Nat) → Option am_R} (h : k < n) (hn : n ≤ 100000) : am_rs (some (.inl (3, n, .inr (.inr (.inr (.inr g)))))) (some (.inr (3, fs))) (nI k) K = K n g := by
  unfold am_rs
  dsimp only
  rw [if_pos ⟨rfl, rfl, ix_nI h hn⟩]
section
variable {s n : Nat}
theorem sinit_l {hd : va_E} (hhd : hd = obj 5 [.ref (s + 6), .ref (s + 1), .ref (s + 4), .int (nI 0), .int (nI 1), .int (nI 0)]) (hn : n ≤ 40) (w1 : Value) : ∀ (m i : Nat) (h : Nat → Option va_E) (g : Nat → Option Nat) (k t : Nat), i + m = n → h s = some hd → h (s + 6) = some (.inl (3, n, .inr (.inr (.inr (.inr g))))) → (∀ j, j < i → g j = some (s + 7 + 3 * j)) →
    ∃ h' g', rn 56 57 [.ref s, w1, .int (nI i)] [] (h, s + 6 + 3 * i + 1, k, t) = some (.inl none, (h', s + 6 + 3 * n + 1, k + 3 * m, t + 67 * m)) ∧ h' (s + 6) = some (.inl (3, n, .inr (.inr (.inr (.inr g'))))) ∧ (∀ j, j < n → g' j = some (s + 7 + 3 * j)) ∧
      (∀ j, i ≤ j → j < n → PgL h' (s + 7 + 3 * j) (fun _ => 0) 2) ∧ (∀ b, b ≠ s + 6 → b < s + 7 + 3 * i ∨ s + 7 + 3 * n ≤ b → h' b = h b) := by
  intro m
  induction m with
  | zero =>
    intro i h g k t hi h1 h2 h3
    have q1 : nI n ≤ nI i := by rw [nI_leI (by omega) (by omega)]; omega
    refine ⟨h, g, ?_, h2, fun j hj => h3 j (by omega), fun j h4 h5 => by omega, fun b _ _ => rfl⟩
    rw [sX5_init_57]
    simp only [sX5_init_0, sX5_init_1, sX5_init_4, sX5_init_5, sX5_init_8, sX5_init_8i, sX5_init_9, sX5_init_12, sX5_init_15, sX5_init_16, sX5_init_19, sX5_init_19i, sX5_init_20, sX5_init_22, sX5_init_25, sX5_init_28, sX5_init_29, sX5_init_30, sX5_init_33, sX5_init_34, sX5_init_35, sX5_init_38, sX5_init_39, sX5_init_40, sX5_init_43, sX5_init_44, sX5_init_45, sX5_init_46, sX5_init_49, sX5_init_52, sX5_init_55, sX5_init_56, sX5_init_58, sX5_init_59, sX5_init_62, sX5_init_63, sX5_init_66, sX5_init_67, sX5_init_70, sX5_init_71, sX5_init_74, sX5_init_74i, sX5_init_75, sX5_init_78, sX5_init_79, sX5_init_82, sX5_init_85, h1, hhd, h2, gf_0, gf_1, gf_2, gf_3, gf_4, gf_5, pf_0, pf_1, pf_2, pf_3, pf_4, pf_5, List.set_cons_zero, List.set_cons_succ, lnr_in, q1, if_true]
    rw [show i = n by omega]
    rfl
  | succ m ih =>
    intro i h g k t hi h1 h2 h3
    have q1 : ¬ nI n ≤ nI i := by rw [nI_leI (by omega) (by omega)]; omega
    obtain ⟨hp, c1, c2, c3⟩ := Page_init (h := am_up h (s + 6 + 3 * i + 1) (obj 3 [.null, .int 0])) (b := s + 6 + 3 * i + 1) (k := k + 1) (t := t + 2) (up_s _ _ _)
    have e6 : hp (s + 6) = some (.inl (3, n, .inr (.inr (.inr (.inr g))))) := by rw [c3 _ (by simp; omega), up_n (by omega)]; exact h2
    have es : hp s = some hd := by rw [c3 _ (by simp; omega), up_n (by omega)]; exact h1
    have hs' : am_up hp (s + 6) (.inl (3, n, .inr (.inr (.inr (.inr (va_up g i (some (s + 6 + 3 * i + 1)))))))) s = some hd := by rw [up_n (by omega)]; exact es
    obtain ⟨h', g', y1, y2, y3, y4, y5⟩ := ih (i + 1) (am_up hp (s + 6) (.inl (3, n, .inr (.inr (.inr (.inr (va_up g i (some (s + 6 + 3 * i + 1)))))))) ) (va_up g i (some (s + 6 + 3 * i + 1))) (k + 3) (t + 67) (by omega) hs' (up_s _ _ _) (fun j hj => by
      unfold va_up
      by_cases e : j = i
      · rw [if_pos e, e]; congr 1; omega
      · rw [if_neg e]; exact h3 j (by omega))
    refine ⟨h', g', ?_, y2, y3, fun j h4 h5 => ?_, fun b h4 h5 => ?_⟩
    · rw [sX5_init_57]
      simp only [sX5_init_0, sX5_init_1, sX5_init_4, sX5_init_5, sX5_init_8, sX5_init_8i, sX5_init_9, sX5_init_12, sX5_init_15, sX5_init_16, sX5_init_19, sX5_init_19i, sX5_init_20, sX5_init_22, sX5_init_25, sX5_init_28, sX5_init_29, sX5_init_30, sX5_init_33, sX5_init_34, sX5_init_35, sX5_init_38, sX5_init_39, sX5_init_40, sX5_init_43, sX5_init_44, sX5_init_45, sX5_init_46, sX5_init_49, sX5_init_52, sX5_init_55, sX5_init_56, sX5_init_58, sX5_init_59, sX5_init_62, sX5_init_63, sX5_init_66, sX5_init_67, sX5_init_70, sX5_init_71, sX5_init_74, sX5_init_74i, sX5_init_75, sX5_init_78, sX5_init_79, sX5_init_82, sX5_init_85, h1, hhd, h2, gf_0, gf_1, gf_2, gf_3, gf_4, gf_5, pf_0, pf_1, pf_2, pf_3, pf_4, pf_5, List.set_cons_zero, List.set_cons_succ, lnr_in, q1, bd_v, bi_v, Option.toList, List.cons_append, List.nil_append, List.length_cons, List.length_nil, Nat.reduceAdd, Nat.reduceLeDiff, ck_in, nI_add, nI_1, if_false, if_true]
      rw [bi_c c1]
      simp only [sX5_init_0, sX5_init_1, sX5_init_4, sX5_init_5, sX5_init_8, sX5_init_8i, sX5_init_9, sX5_init_12, sX5_init_15, sX5_init_16, sX5_init_19, sX5_init_19i, sX5_init_20, sX5_init_22, sX5_init_25, sX5_init_28, sX5_init_29, sX5_init_30, sX5_init_33, sX5_init_34, sX5_init_35, sX5_init_38, sX5_init_39, sX5_init_40, sX5_init_43, sX5_init_44, sX5_init_45, sX5_init_46, sX5_init_49, sX5_init_52, sX5_init_55, sX5_init_56, sX5_init_58, sX5_init_59, sX5_init_62, sX5_init_63, sX5_init_66, sX5_init_67, sX5_init_70, sX5_init_71, sX5_init_74, sX5_init_74i, sX5_init_75, sX5_init_78, sX5_init_79, sX5_init_82, sX5_init_85, bd_v, bi_v, Option.toList, List.cons_append, List.nil_append, List.length_cons, List.length_nil, Nat.reduceAdd, Nat.reduceLeDiff, ck_in, nI_add, nI_1, if_false, if_true, e6, c2.1]
      rw [rs_in (show i < n by omega) (by omega)]
      simp only [sX5_init_0, sX5_init_1, sX5_init_4, sX5_init_5, sX5_init_8, sX5_init_8i, sX5_init_9, sX5_init_12, sX5_init_15, sX5_init_16, sX5_init_19, sX5_init_19i, sX5_init_20, sX5_init_22, sX5_init_25, sX5_init_28, sX5_init_29, sX5_init_30, sX5_init_33, sX5_init_34, sX5_init_35, sX5_init_38, sX5_init_39, sX5_init_40, sX5_init_43, sX5_init_44, sX5_init_45, sX5_init_46, sX5_init_49, sX5_init_52, sX5_init_55, sX5_init_56, sX5_init_58, sX5_init_59, sX5_init_62, sX5_init_63, sX5_init_66, sX5_init_67, sX5_init_70, sX5_init_71, sX5_init_74, sX5_init_74i, sX5_init_75, sX5_init_78, sX5_init_79, sX5_init_82, sX5_init_85, bd_v, bi_v, Option.toList, List.cons_append, List.nil_append, List.length_cons, List.length_nil, Nat.reduceAdd, Nat.reduceLeDiff, ck_in, nI_add, nI_1, if_false, if_true, cl_nI (show i < 100001 by omega)]
      have e9 : s + 6 + 3 * (i + 1) + 1 = s + 6 + 3 * i + 1 + 3 := by omega
      have e10 : k + 3 + 3 * m = k + 3 * (m + 1) := by omega
      have e11 : t + 67 + 67 * m = t + 67 * (m + 1) := by omega
      rw [e9, e10, e11] at y1
      exact y1
    · by_cases e : j = i
      · subst e
        have q := y5 (s + 7 + 3 * j) (by omega) (by omega)
        have q1 := y5 (s + 7 + 3 * j + 1) (by omega) (by omega)
        have q2 := y5 (s + 7 + 3 * j + 2) (by omega) (by omega)
        rw [up_n (by omega)] at q q1 q2
        have c2' := c2
        rw [show s + 6 + 3 * j + 1 = s + 7 + 3 * j by omega] at c2'
        exact ⟨q.trans c2'.1, q1.trans c2'.2.1, q2.trans c2'.2.2⟩
      · exact y4 j (by omega) h5
    · rw [y5 b h4 (by omega), up_n h4, c3 _ (by simp; omega), up_n (by omega)]
def S0 : Sh := (fun _ => 0, fun _ => [], fun _ => 0, 0, 1, 0)
theorem WF0 (h1 : 1 ≤ n) (h2 : n ≤ 40) : WF n S0 := by
  refine ⟨by decide, h1, by decide, h2, fun e he => (Nat.lt_succ_self 0), fun p => (show 2 + 0 ≤ 60 by omega), fun p => Nat.le_refl 0, fun p x hx => (by cases hx), fun e e' he he' _ => ?_, fun p => List.nodup_nil, fun p x hx => (by cases hx), fun p hp => ⟨rfl, rfl⟩⟩
  have he : e < 2 ^ 0 := he
  have he' : e' < 2 ^ 0 := he'
  rw [show e = e' by omega]
theorem Shelf_init {h : Nat → Option va_E} {k t : Nat} (hs : h s = some (obj 5 [.null, .null, .null, .int 0, .int 0, .int 0])) (h1 : 1 ≤ n) (hn : n ≤ 40) : ∃ h', cl 56 [.ref s, .int (nI n)] (h, s + 1, k, t) = some (.inl none, (h', s + 6 + 3 * n + 1, k + 6 + 3 * n, t + 100 + 68 * n)) ∧ ShS h' s n S0 ∧ (∀ b, b < s ∨ s + 7 + 3 * n ≤ b → h' b = h b) := by
  have m1 : (if (1 : Int32) < nI n then nI n else 1) = nI n := by
    by_cases e : n = 1
    · subst e; rfl
    · rw [if_pos]; rw [show (1 : Int32) = nI 1 from rfl, nI_ltI (by omega) (by omega)]; omega
  have m2 : ¬ (nI n < 0) := nI_pos (by omega)
  have m3 : ¬ 100000 < (nI n).toNatClampNeg := by rw [cl_nI (by omega)]; omega
  obtain ⟨hA, a1, a2, a3⟩ := Page_init (h := am_up h (s + 1) (obj 3 [.null, .int 0])) (b := s + 1) (k := k + 1) (t := t + 2) (up_s _ _ _)
  have as : hA s = some (obj 5 [.null, .null, .null, .int 0, .int 0, .int 0]) := by rw [a3 _ (by simp; omega), up_n (by omega)]; exact hs
  have b1 := Row_init (h := am_up (am_up hA s (obj 5 [.null, .ref (s + 1), .null, .int 0, .int 0, .int 0])) (s + 1 + 3) (obj 4 [.null])) (q := s + 1 + 3) (k := k + 1 + 2 + 1) (s := t + 2 + 65 + 1) (r := s + 1 + 3) (m := 32) (up_s _ _ _) (by omega) (by omega)
  rw [show nI 32 = (32 : Int32) from rfl] at b1
  have hb0 : ∃ hB, hB = am_up (am_up (am_up (am_up hA s (obj 5 [.null, .ref (s + 1), .null, .int 0, .int 0, .int 0])) (s + 1 + 3) (obj 4 [.null])) (s + 1 + 3 + 1) (ints 32 (fun _ => 0))) (s + 1 + 3) (obj 4 [.ref (s + 1 + 3 + 1)]) := ⟨_, rfl⟩
  obtain ⟨hB, hB0⟩ := hb0
  rw [← hB0] at b1
  have bs : hB s = some (obj 5 [.null, .ref (s + 1), .null, .int 0, .int 0, .int 0]) := by rw [hB0, up_n (by omega), up_n (by omega), up_n (by omega)]; exact up_s _ _ _
  have hc0 : ∃ hC, hC = am_up (am_up hB (s + 6) (.inl (3, n, .inr (.inr (.inr (.inr (fun _ => none))))))) s (obj 5 [.ref (s + 6), .ref (s + 1), .ref (s + 4), .int 0, .int 1, .int 0]) := ⟨_, rfl⟩
  obtain ⟨hC, hC0⟩ := hc0
  obtain ⟨h', g', y1, y2, y3, y4, y5⟩ := sinit_l (s := s) (n := n) rfl hn (.int (nI n)) n 0 hC (fun _ => none) (k + 6) (t + 100 + n) (by omega) (by rw [hC0]; exact up_s _ _ _) (by rw [hC0, up_n (by omega)]; exact up_s _ _ _) (fun j hj => by omega)
  have fA : ∀ b, b ≠ s → b ≠ s + 4 → b ≠ s + 5 → b ≠ s + 6 → hC b = hA b := fun b e0 e4 e5 e6 => by rw [hC0, up_n e0, up_n e6, hB0, up_n (by omega), up_n (by omega), up_n (by omega), up_n e0]
  have key : ∀ b, b < s + 7 → b ≠ s + 6 → h' b = hC b := fun b h1 h2 => y5 b h2 (by omega)
  refine ⟨h', ?_, ⟨fun _ => 0, ⟨?_, ⟨g', y2, y3⟩, ⟨fun _ => 0, 2, ⟨?_, ?_, ?_⟩, fun _ _ => rfl⟩, ?_, ?_, fun i hi => ?_⟩, fun e _ => rfl⟩, fun b hb => ?_⟩
  · rw [eX5_init]
    simp only [sX5_init_0, sX5_init_1, sX5_init_4, sX5_init_5, sX5_init_8, sX5_init_8i, sX5_init_9, sX5_init_12, sX5_init_15, sX5_init_16, sX5_init_19, sX5_init_19i, sX5_init_20, sX5_init_22, sX5_init_25, sX5_init_28, sX5_init_29, sX5_init_30, sX5_init_33, sX5_init_34, sX5_init_35, sX5_init_38, sX5_init_39, sX5_init_40, sX5_init_43, sX5_init_44, sX5_init_45, sX5_init_46, sX5_init_49, sX5_init_52, sX5_init_55, sX5_init_56, sX5_init_58, sX5_init_59, sX5_init_62, sX5_init_63, sX5_init_66, sX5_init_67, sX5_init_70, sX5_init_71, sX5_init_74, sX5_init_74i, sX5_init_75, sX5_init_78, sX5_init_79, sX5_init_82, sX5_init_85, bd_v, bi_v, Option.toList, List.cons_append, List.nil_append, List.length_cons, List.length_nil, Nat.reduceAdd, Nat.reduceLeDiff, ck_in, nI_add, nI_1, if_false, if_true]
    rw [bi_c a1]
    simp only [sX5_init_0, sX5_init_1, sX5_init_4, sX5_init_5, sX5_init_8, sX5_init_8i, sX5_init_9, sX5_init_12, sX5_init_15, sX5_init_16, sX5_init_19, sX5_init_19i, sX5_init_20, sX5_init_22, sX5_init_25, sX5_init_28, sX5_init_29, sX5_init_30, sX5_init_33, sX5_init_34, sX5_init_35, sX5_init_38, sX5_init_39, sX5_init_40, sX5_init_43, sX5_init_44, sX5_init_45, sX5_init_46, sX5_init_49, sX5_init_52, sX5_init_55, sX5_init_56, sX5_init_58, sX5_init_59, sX5_init_62, sX5_init_63, sX5_init_66, sX5_init_67, sX5_init_70, sX5_init_71, sX5_init_74, sX5_init_74i, sX5_init_75, sX5_init_78, sX5_init_79, sX5_init_82, sX5_init_85, bd_v, bi_v, Option.toList, List.cons_append, List.nil_append, List.length_cons, List.length_nil, Nat.reduceAdd, Nat.reduceLeDiff, ck_in, nI_add, nI_1, if_false, if_true, as, gf_0, gf_1, gf_2, gf_3, gf_4, gf_5, pf_0, pf_1, pf_2, pf_3, pf_4, pf_5, List.set_cons_zero, List.set_cons_succ]
    rw [bi_c b1]
    simp only [sX5_init_0, sX5_init_1, sX5_init_4, sX5_init_5, sX5_init_8, sX5_init_8i, sX5_init_9, sX5_init_12, sX5_init_15, sX5_init_16, sX5_init_19, sX5_init_19i, sX5_init_20, sX5_init_22, sX5_init_25, sX5_init_28, sX5_init_29, sX5_init_30, sX5_init_33, sX5_init_34, sX5_init_35, sX5_init_38, sX5_init_39, sX5_init_40, sX5_init_43, sX5_init_44, sX5_init_45, sX5_init_46, sX5_init_49, sX5_init_52, sX5_init_55, sX5_init_56, sX5_init_58, sX5_init_59, sX5_init_62, sX5_init_63, sX5_init_66, sX5_init_67, sX5_init_70, sX5_init_71, sX5_init_74, sX5_init_74i, sX5_init_75, sX5_init_78, sX5_init_79, sX5_init_82, sX5_init_85, bd_v, bi_v, Option.toList, List.cons_append, List.nil_append, List.length_cons, List.length_nil, Nat.reduceAdd, Nat.reduceLeDiff, ck_in, nI_add, nI_1, if_false, if_true, bs, gf_0, gf_1, gf_2, gf_3, gf_4, gf_5, pf_0, pf_1, pf_2, pf_3, pf_4, pf_5, List.set_cons_zero, List.set_cons_succ, m1, m2, m3, up_s, up_up, not_false_eq_true, up_n (show s ≠ s + 1 + 3 + 2 by omega)]
    rw [cl_nI (by omega)]
    have z1 : k + 6 + 3 * n = k + 6 + 3 * n := rfl
    have z2 : t + 100 + n + 67 * n = t + 100 + 68 * n := by omega
    rw [z2] at y1
    rw [hC0] at y1
    rw [up_comm (show s ≠ s + 5 + 1 by omega), up_up]
    exact y1
  · rw [key _ (by omega) (by omega), hC0]; exact up_s _ _ _
  · rw [key _ (by omega) (by omega), fA _ (by omega) (by omega) (by omega) (by omega)]; exact a2.1
  · rw [key _ (by omega) (by omega), fA _ (by omega) (by omega) (by omega) (by omega)]; exact a2.2.1
  · rw [key _ (by omega) (by omega), fA _ (by omega) (by omega) (by omega) (by omega)]; exact a2.2.2
  · rw [key _ (by omega) (by omega), hC0, up_n (by omega), up_n (by omega), hB0]; exact up_s _ _ _
  · rw [key _ (by omega) (by omega), hC0, up_n (by omega), up_n (by omega), hB0, up_n (by omega)]; exact up_s _ _ _
  · show PgL h' _ (pgF 0 []) 2
    rw [pgF_new]
    exact y4 i (by omega) hi
  · rw [y5 b (by omega) (by omega), fA _ (by omega) (by omega) (by omega) (by omega), a3 _ (by simp; omega), up_n (by omega)]
end
