/-! the object: count, and how it begins -/
section
variable {h : Nat → Option va_E} {z : Nat × Nat × Nat} {b n : Nat} {S Sv : Sh} {M J : Nat → Int32} {jl : Nat} {nm : List Int32}
theorem sw_d {w : Int32} (h0 : ¬ w = 0) (h1 : ¬ w = 1) (h2 : ¬ w = 2) (h3 : ¬ w = 3) (h4 : ¬ w = 4) (h5 : ¬ w = 5) : w.toInt < 0 ∨ 5 < w.toInt := by
  have hu := un_lt w
  have key : ∀ k : Nat, un w = k → w = nI k := fun k e => by rw [← e, nI_un]
  have k0 : un w ≠ 0 := fun e => h0 (key 0 e)
  have k1 : un w ≠ 1 := fun e => h1 (key 1 e)
  have k2 : un w ≠ 2 := fun e => h2 (key 2 e)
  have k3 : un w ≠ 3 := fun e => h3 (key 3 e)
  have k4 : un w ≠ 4 := fun e => h4 (key 4 e)
  have k5 : un w ≠ 5 := fun e => h5 (key 5 e)
  rw [toInt_un]
  by_cases q : un w < 2 ^ 31
  · rw [if_pos q]; omega
  · rw [if_neg q]; omega
theorem F_count (c : CI h b n (S, Sv, M, J, jl, nm)) (i : SI n (S, Sv, M, J, jl, nm)) (w : Int32) : FR (cl 93 [.ref b, .int w] (h, z)) h b n z (opCount n w (S, Sv, M, J, jl, nm)) := by
  have c : CC h b n S Sv M M J jl nm := c
  have hn : n ≤ 40 := i.1.2.2.2.1
  obtain ⟨tf, l1, l2⟩ := id c.2.2.2.2.1
  unfold opCount
  rw [eX6_count]
  by_cases h0 : w = 0
  · subst h0
    refine ⟨h, ?_, c, frI.r⟩
    rw [if_pos rfl]
    simp only [sX6_count_0, sX6_count_1_0, sX6_count_1_1, sX6_count_1_2, sX6_count_1_3, sX6_count_1_4, sX6_count_1_5, sX6_count_40, sX6_count_41, sX6_count_44, sX6_count_47, sX6_count_48, sX6_count_49, sX6_count_52, sX6_count_55, sX6_count_56, sX6_count_57, sX6_count_60, sX6_count_61, sX6_count_64, sX6_count_67, sX6_count_68, sX6_count_69, sX6_count_72, sX6_count_75, sX6_count_76, sX6_count_77, sX6_count_80, sX6_count_83, sX6_count_84, sX6_count_85, sX6_count_88, sX6_count_91, sX6_count_92, sX6_count_93, c.1, l1.1, gf_0, gf_1, gf_2, gf_3, gf_4, gf_5, pf_0, pf_1, pf_2, pf_3, pf_4, pf_5, List.set_cons_zero, List.set_cons_succ, bd_v, bi_v, Option.toList, List.cons_append, List.nil_append, List.length_cons, List.length_nil, Nat.reduceAdd, Nat.reduceLeDiff, ck_in, nI_add, nI_1, if_false, if_true, Shelf_depth l1]
    rfl
  · by_cases h1 : w = 1
    · subst h1
      refine ⟨h, ?_, c, frI.r⟩
      rw [if_neg h0, if_pos rfl]
      simp only [sX6_count_0, sX6_count_1_0, sX6_count_1_1, sX6_count_1_2, sX6_count_1_3, sX6_count_1_4, sX6_count_1_5, sX6_count_40, sX6_count_41, sX6_count_44, sX6_count_47, sX6_count_48, sX6_count_49, sX6_count_52, sX6_count_55, sX6_count_56, sX6_count_57, sX6_count_60, sX6_count_61, sX6_count_64, sX6_count_67, sX6_count_68, sX6_count_69, sX6_count_72, sX6_count_75, sX6_count_76, sX6_count_77, sX6_count_80, sX6_count_83, sX6_count_84, sX6_count_85, sX6_count_88, sX6_count_91, sX6_count_92, sX6_count_93, c.1, l1.1, gf_0, gf_1, gf_2, gf_3, gf_4, gf_5, pf_0, pf_1, pf_2, pf_3, pf_4, pf_5, List.set_cons_zero, List.set_cons_succ, bd_v, bi_v, Option.toList, List.cons_append, List.nil_append, List.length_cons, List.length_nil, Nat.reduceAdd, Nat.reduceLeDiff, ck_in, nI_add, nI_1, if_false, if_true, Shelf_used l1]
      rfl
    · by_cases h2 : w = 2
      · subst h2
        rw [if_neg h0, if_neg h1, if_pos rfl]
        by_cases q : nzc M (64 * n) = 0
        · have hs := c.2.2.2.2.1.sh (nzM q)
          rw [if_pos q]
          refine ⟨h, ?_, c, frI.r⟩
          simp only [sX6_count_0, sX6_count_1_0, sX6_count_1_1, sX6_count_1_2, sX6_count_1_3, sX6_count_1_4, sX6_count_1_5, sX6_count_40, sX6_count_41, sX6_count_44, sX6_count_47, sX6_count_48, sX6_count_49, sX6_count_52, sX6_count_55, sX6_count_56, sX6_count_57, sX6_count_60, sX6_count_61, sX6_count_64, sX6_count_67, sX6_count_68, sX6_count_69, sX6_count_72, sX6_count_75, sX6_count_76, sX6_count_77, sX6_count_80, sX6_count_83, sX6_count_84, sX6_count_85, sX6_count_88, sX6_count_91, sX6_count_92, sX6_count_93, c.1, l1.1, gf_0, gf_1, gf_2, gf_3, gf_4, gf_5, pf_0, pf_1, pf_2, pf_3, pf_4, pf_5, List.set_cons_zero, List.set_cons_succ, bd_v, bi_v, Option.toList, List.cons_append, List.nil_append, List.length_cons, List.length_nil, Nat.reduceAdd, Nat.reduceLeDiff, ck_in, nI_add, nI_1, if_false, if_true, rSound_n c hn q, Shelf_names hs i.1]
          rfl
        · rw [if_neg q]
          refine ⟨h, ?_, c, frI.r⟩
          simp only [sX6_count_0, sX6_count_1_0, sX6_count_1_1, sX6_count_1_2, sX6_count_1_3, sX6_count_1_4, sX6_count_1_5, sX6_count_40, sX6_count_41, sX6_count_44, sX6_count_47, sX6_count_48, sX6_count_49, sX6_count_52, sX6_count_55, sX6_count_56, sX6_count_57, sX6_count_60, sX6_count_61, sX6_count_64, sX6_count_67, sX6_count_68, sX6_count_69, sX6_count_72, sX6_count_75, sX6_count_76, sX6_count_77, sX6_count_80, sX6_count_83, sX6_count_84, sX6_count_85, sX6_count_88, sX6_count_91, sX6_count_92, sX6_count_93, c.1, l1.1, gf_0, gf_1, gf_2, gf_3, gf_4, gf_5, pf_0, pf_1, pf_2, pf_3, pf_4, pf_5, List.set_cons_zero, List.set_cons_succ, bd_v, bi_v, Option.toList, List.cons_append, List.nil_append, List.length_cons, List.length_nil, Nat.reduceAdd, Nat.reduceLeDiff, ck_in, nI_add, nI_1, if_false, if_true, rSound_y c hn q, bd_x]
          rfl
      · by_cases h3 : w = 3
        · subst h3
          refine ⟨h, ?_, c, frI.r⟩
          rw [if_neg h0, if_neg h1, if_neg h2, if_pos rfl]
          simp only [sX6_count_0, sX6_count_1_0, sX6_count_1_1, sX6_count_1_2, sX6_count_1_3, sX6_count_1_4, sX6_count_1_5, sX6_count_40, sX6_count_41, sX6_count_44, sX6_count_47, sX6_count_48, sX6_count_49, sX6_count_52, sX6_count_55, sX6_count_56, sX6_count_57, sX6_count_60, sX6_count_61, sX6_count_64, sX6_count_67, sX6_count_68, sX6_count_69, sX6_count_72, sX6_count_75, sX6_count_76, sX6_count_77, sX6_count_80, sX6_count_83, sX6_count_84, sX6_count_85, sX6_count_88, sX6_count_91, sX6_count_92, sX6_count_93, c.1, l1.1, gf_0, gf_1, gf_2, gf_3, gf_4, gf_5, pf_0, pf_1, pf_2, pf_3, pf_4, pf_5, List.set_cons_zero, List.set_cons_succ, bd_v, bi_v, Option.toList, List.cons_append, List.nil_append, List.length_cons, List.length_nil, Nat.reduceAdd, Nat.reduceLeDiff, ck_in, nI_add, nI_1, if_false, if_true, Shelf_acts l1]
          rfl
        · by_cases h4 : w = 4
          · subst h4
            refine ⟨h, ?_, c, frI.r⟩
            rw [if_neg h0, if_neg h1, if_neg h2, if_neg h3, if_pos rfl]
            simp only [sX6_count_0, sX6_count_1_0, sX6_count_1_1, sX6_count_1_2, sX6_count_1_3, sX6_count_1_4, sX6_count_1_5, sX6_count_40, sX6_count_41, sX6_count_44, sX6_count_47, sX6_count_48, sX6_count_49, sX6_count_52, sX6_count_55, sX6_count_56, sX6_count_57, sX6_count_60, sX6_count_61, sX6_count_64, sX6_count_67, sX6_count_68, sX6_count_69, sX6_count_72, sX6_count_75, sX6_count_76, sX6_count_77, sX6_count_80, sX6_count_83, sX6_count_84, sX6_count_85, sX6_count_88, sX6_count_91, sX6_count_92, sX6_count_93, c.1, c.2.1.1, gf_0, gf_1, gf_2, gf_3, gf_4, gf_5, pf_0, pf_1, pf_2, pf_3, pf_4, pf_5, List.set_cons_zero, List.set_cons_succ, bd_v, bi_v, Option.toList, List.cons_append, List.nil_append, List.length_cons, List.length_nil, Nat.reduceAdd, Nat.reduceLeDiff, ck_in, nI_add, nI_1, if_false, if_true, Jr_length c.2.1]
            rfl
          · by_cases h5 : w = 5
            · subst h5
              refine ⟨h, ?_, c, frI.r⟩
              rw [if_neg h0, if_neg h1, if_neg h2, if_neg h3, if_neg h4, if_pos rfl]
              simp only [sX6_count_0, sX6_count_1_0, sX6_count_1_1, sX6_count_1_2, sX6_count_1_3, sX6_count_1_4, sX6_count_1_5, sX6_count_40, sX6_count_41, sX6_count_44, sX6_count_47, sX6_count_48, sX6_count_49, sX6_count_52, sX6_count_55, sX6_count_56, sX6_count_57, sX6_count_60, sX6_count_61, sX6_count_64, sX6_count_67, sX6_count_68, sX6_count_69, sX6_count_72, sX6_count_75, sX6_count_76, sX6_count_77, sX6_count_80, sX6_count_83, sX6_count_84, sX6_count_85, sX6_count_88, sX6_count_91, sX6_count_92, sX6_count_93, c.1, l1.1, gf_0, gf_1, gf_2, gf_3, gf_4, gf_5, pf_0, pf_1, pf_2, pf_3, pf_4, pf_5, List.set_cons_zero, List.set_cons_succ, bd_v, bi_v, Option.toList, List.cons_append, List.nil_append, List.length_cons, List.length_nil, Nat.reduceAdd, Nat.reduceLeDiff, ck_in, nI_add, nI_1, if_false, if_true, Shelf_size l1]
              rfl
            · rw [if_neg h0, if_neg h1, if_neg h2, if_neg h3, if_neg h4, if_neg h5]
              refine ⟨h, ?_, c, frI.r⟩
              rw [sX6_count_0, sX6_count_1_d _ _ _ _ (sw_d h0 h1 h2 h3 h4 h5)]
              simp only [sX6_count_92, sX6_count_93]
              rfl
end
def npg (x : Int32) : Nat := if x < 1 then 1 else if 40 < x then 40 else un x
theorem npg_b (x : Int32) : 1 ≤ npg x ∧ npg x ≤ 40 := by
  unfold npg
  have e1 : (x < 1) ↔ (un x < 1 ∨ 2 ^ 31 ≤ un x) := lt_un (k := 1) (by omega)
  have e2 : (40 < x) ↔ (40 < un x ∧ un x < 2 ^ 31) := gt_un (k := 40) (by omega)
  by_cases q1 : x < 1
  · rw [if_pos q1]; omega
  · rw [if_neg q1]
    by_cases q2 : 40 < x
    · rw [if_pos q2]; omega
    · rw [if_neg q2]
      have h1 := mt e1.mpr q1
      have h2 := mt e2.mpr q2
      omega
theorem npg_v (x : Int32) : (if (1 : Int32) < (if (40 : Int32) < x then 40 else x) then (if (40 : Int32) < x then 40 else x) else 1) = nI (npg x) := by
  unfold npg
  have e1 : (x < 1) ↔ (un x < 1 ∨ 2 ^ 31 ≤ un x) := lt_un (k := 1) (by omega)
  have e2 : (40 < x) ↔ (40 < un x ∧ un x < 2 ^ 31) := gt_un (k := 40) (by omega)
  have e3 : (1 < x) ↔ (1 < un x ∧ un x < 2 ^ 31) := gt_un (k := 1) (by omega)
  by_cases q2 : 40 < x
  · have h2 := e2.mp q2
    have q1 : ¬ x < 1 := fun y => by have := e1.mp y; omega
    rw [if_pos q2, if_pos q2, if_neg q1, if_pos (by decide)]; rfl
  · rw [if_neg q2, if_neg q2]
    have h2 := mt e2.mpr q2
    by_cases q1 : x < 1
    · have h1 := e1.mp q1
      have q3 : ¬ 1 < x := fun y => by have := e3.mp y; omega
      rw [if_pos q1, if_neg q3]; rfl
    · have h1 := mt e1.mpr q1
      rw [if_neg q1, nI_un]
      by_cases q3 : 1 < x
      · rw [if_pos q3]
      · have h3 := mt e3.mpr q3
        rw [if_neg q3]
        have : un x = 1 := by omega
        rw [← nI_un x, this]; rfl
def σ0 : St := (S0, S0, (fun _ => 0), (fun _ => 0), 0, [])
theorem SI0 {n : Nat} (h1 : 1 ≤ n) (h2 : n ≤ 40) : SI n σ0 := ⟨WF0 h1 h2, WF0 h1 h2, Nat.zero_le _, Nat.zero_le _, fun j => (show un 0 < 256 by decide), fun j _ => rfl⟩
theorem F_init {h : Nat → Option va_E} {b k t n : Nat} (x : Int32) (hx : npg x = n) (hb : h b = some (obj 6 [.null, .null, .null, .null, .null, .null])) : ∃ h', cl 75 [.ref b, .int x] (h, b + 1, k, t) = some (.inl none, (h', b + 27 + 6 * n, k + 26 + 6 * n, t + 848 + 200 * n)) ∧ CI h' b n σ0 ∧ frI b (b + 27 + 6 * n) h h' := by
  obtain ⟨hn1, hn⟩ := npg_b x
  have hv := npg_v x
  rw [hx] at hn1 hn hv
  obtain ⟨hA, a1, a2, a3⟩ := Jr_init (h := am_up h (b + 1) (obj 1 [.null, .int 0])) (b := b + 1) (k := k + 1) (t := t + 2) (up_s _ _ _)
  have ab : hA b = some (obj 6 [.null, .null, .null, .null, .null, .null]) := by rw [a3 _ (by simp; omega), up_n (by omega)]; exact hb
  have fA : frI (b + 1) (b + 4) h hA := (frI.u (by omega) (by omega)).t (frI.of a3 (by simp))
  obtain ⟨hB, b1, b2, b3⟩ := Name_init (h := am_up (am_up hA b (obj 6 [.null, .null, .null, .ref (b + 1), .null, .null])) (b + 1 + 3) (obj 2 [.null, .int 0])) (b := b + 1 + 3) (k := k + 1 + 2 + 1) (t := t + 2 + 601 + 2) (up_s _ _ _)
  have bb : hB b = some (obj 6 [.null, .null, .null, .ref (b + 1), .null, .null]) := by rw [b3 _ (by simp; omega), up_n (by omega)]; exact up_s _ _ _
  have fB : ∀ y, (y < b + 4 ∨ b + 7 ≤ y) → y ≠ b → hB y = hA y := fun y hy hyb => by rw [b3 _ (by simp; omega), up_n (by omega), up_n hyb]
  obtain ⟨hC, c1, c2, c3⟩ := Name_init (h := am_up (am_up hB b (obj 6 [.null, .null, .null, .ref (b + 1), .ref (b + 1 + 3), .null])) (b + 1 + 3 + 3) (obj 2 [.null, .int 0])) (b := b + 1 + 3 + 3) (k := k + 1 + 2 + 1 + 2 + 1) (t := t + 2 + 601 + 2 + 13 + 2) (up_s _ _ _)
  have cb : hC b = some (obj 6 [.null, .null, .null, .ref (b + 1), .ref (b + 1 + 3), .null]) := by rw [c3 _ (by simp; omega), up_n (by omega)]; exact up_s _ _ _
  have fC : ∀ y, (y < b + 7 ∨ b + 10 ≤ y) → y ≠ b → hC y = hB y := fun y hy hyb => by rw [c3 _ (by simp; omega), up_n (by omega), up_n hyb]
  obtain ⟨hD, d1, d2, d3⟩ := Shelf_init (h := am_up (am_up hC b (obj 6 [.null, .null, .null, .ref (b + 1), .ref (b + 1 + 3), .ref (b + 1 + 3 + 3)])) (b + 1 + 3 + 3 + 3) (obj 5 [.null, .null, .null, .int 0, .int 0, .int 0])) (s := b + 1 + 3 + 3 + 3) (n := n) (k := k + 1 + 2 + 1 + 2 + 1 + 2 + 1) (t := t + 2 + 601 + 2 + 13 + 2 + 13 + 6) (up_s _ _ _) hn1 hn
  have db : hD b = some (obj 6 [.null, .null, .null, .ref (b + 1), .ref (b + 1 + 3), .ref (b + 1 + 3 + 3)]) := by rw [d3 _ (by omega), up_n (by omega)]; exact up_s _ _ _
  have fD : ∀ y, (y < b + 10 ∨ b + 17 + 3 * n ≤ y) → y ≠ b → hD y = hC y := fun y hy hyb => by rw [d3 _ (by omega), up_n (by omega), up_n hyb]
  obtain ⟨hE, e1, e2, e3⟩ := Shelf_init (h := am_up (am_up hD b (obj 6 [.ref (b + 1 + 3 + 3 + 3), .null, .null, .ref (b + 1), .ref (b + 1 + 3), .ref (b + 1 + 3 + 3)])) (b + 1 + 3 + 3 + 3 + 6 + 3 * n + 1) (obj 5 [.null, .null, .null, .int 0, .int 0, .int 0])) (s := b + 1 + 3 + 3 + 3 + 6 + 3 * n + 1) (n := n) (k := k + 1 + 2 + 1 + 2 + 1 + 2 + 1 + 6 + 3 * n + 1) (t := t + 2 + 601 + 2 + 13 + 2 + 13 + 6 + 100 + 68 * n + 6) (up_s _ _ _) hn1 hn
  have eb : hE b = some (obj 6 [.ref (b + 1 + 3 + 3 + 3), .null, .null, .ref (b + 1), .ref (b + 1 + 3), .ref (b + 1 + 3 + 3)]) := by rw [e3 _ (by omega), up_n (by omega)]; exact up_s _ _ _
  have fE : ∀ y, (y < b + 17 + 3 * n ∨ b + 24 + 6 * n ≤ y) → y ≠ b → hE y = hD y := fun y hy hyb => by rw [e3 _ (by omega), up_n (by omega), up_n hyb]
  obtain ⟨hF, f1, f2, f3⟩ := Al_init (h := am_up (am_up hE b (obj 6 [.ref (b + 1 + 3 + 3 + 3), .ref (b + 1 + 3 + 3 + 3 + 6 + 3 * n + 1), .null, .ref (b + 1), .ref (b + 1 + 3), .ref (b + 1 + 3 + 3)])) (b + 1 + 3 + 3 + 3 + 6 + 3 * n + 1 + 6 + 3 * n + 1) (obj 0 [.null, .int 0])) (b := b + 1 + 3 + 3 + 3 + 6 + 3 * n + 1 + 6 + 3 * n + 1) (n := n) (k := k + 1 + 2 + 1 + 2 + 1 + 2 + 1 + 6 + 3 * n + 1 + 6 + 3 * n + 1) (t := t + 2 + 601 + 2 + 13 + 2 + 13 + 6 + 100 + 68 * n + 6 + 100 + 68 * n + 2) hn (up_s _ _ _)
  have fb : hF b = some (obj 6 [.ref (b + 1 + 3 + 3 + 3), .ref (b + 1 + 3 + 3 + 3 + 6 + 3 * n + 1), .null, .ref (b + 1), .ref (b + 1 + 3), .ref (b + 1 + 3 + 3)]) := by rw [f3 _ (by simp; omega), up_n (by omega)]; exact up_s _ _ _
  have fF : ∀ y, (y < b + 24 + 6 * n ∨ b + 27 + 6 * n ≤ y) → y ≠ b → hF y = hE y := fun y hy hyb => by rw [f3 _ (by simp; omega), up_n (by omega), up_n hyb]
  refine ⟨am_up hF b (obj 6 [.ref (b + 1 + 3 + 3 + 3), .ref (b + 1 + 3 + 3 + 3 + 6 + 3 * n + 1), .ref (b + 1 + 3 + 3 + 3 + 6 + 3 * n + 1 + 6 + 3 * n + 1), .ref (b + 1), .ref (b + 1 + 3), .ref (b + 1 + 3 + 3)]), ?_, ⟨?_, ?_, ⟨fun _ => 0, ?_, rfl⟩, ⟨0, fun _ => 0, ?_⟩, ?_, ?_, ?_⟩, ?_⟩
  · rw [eX6_init]
    simp only [sX6_init_0, sX6_init_1, sX6_init_4, sX6_init_5, sX6_init_8, sX6_init_8i, sX6_init_9, sX6_init_12, sX6_init_15, sX6_init_16, sX6_init_19, sX6_init_19i, sX6_init_20, sX6_init_23, sX6_init_26, sX6_init_27, sX6_init_30, sX6_init_30i, sX6_init_31, sX6_init_34, sX6_init_37, sX6_init_38, sX6_init_39, sX6_init_41, sX6_init_44, sX6_init_47, sX6_init_48, sX6_init_49, sX6_init_52, sX6_init_52i, sX6_init_53, sX6_init_54, sX6_init_57, sX6_init_60, sX6_init_61, sX6_init_64, sX6_init_64i, sX6_init_65, sX6_init_66, sX6_init_69, sX6_init_72, sX6_init_73, sX6_init_76, sX6_init_76i, sX6_init_77, sX6_init_78, sX6_init_81, sX6_init_84, bd_v, bi_v, Option.toList, List.cons_append, List.nil_append, List.length_cons, List.length_nil, Nat.reduceAdd, Nat.reduceLeDiff, ck_in, nI_add, nI_1, if_false, if_true]
    rw [bi_c a1]
    simp only [sX6_init_0, sX6_init_1, sX6_init_4, sX6_init_5, sX6_init_8, sX6_init_8i, sX6_init_9, sX6_init_12, sX6_init_15, sX6_init_16, sX6_init_19, sX6_init_19i, sX6_init_20, sX6_init_23, sX6_init_26, sX6_init_27, sX6_init_30, sX6_init_30i, sX6_init_31, sX6_init_34, sX6_init_37, sX6_init_38, sX6_init_39, sX6_init_41, sX6_init_44, sX6_init_47, sX6_init_48, sX6_init_49, sX6_init_52, sX6_init_52i, sX6_init_53, sX6_init_54, sX6_init_57, sX6_init_60, sX6_init_61, sX6_init_64, sX6_init_64i, sX6_init_65, sX6_init_66, sX6_init_69, sX6_init_72, sX6_init_73, sX6_init_76, sX6_init_76i, sX6_init_77, sX6_init_78, sX6_init_81, sX6_init_84, bd_v, bi_v, Option.toList, List.cons_append, List.nil_append, List.length_cons, List.length_nil, Nat.reduceAdd, Nat.reduceLeDiff, ck_in, nI_add, nI_1, if_false, if_true, ab, gf_0, gf_1, gf_2, gf_3, gf_4, gf_5, pf_0, pf_1, pf_2, pf_3, pf_4, pf_5, List.set_cons_zero, List.set_cons_succ]
    rw [bi_c b1]
    simp only [sX6_init_0, sX6_init_1, sX6_init_4, sX6_init_5, sX6_init_8, sX6_init_8i, sX6_init_9, sX6_init_12, sX6_init_15, sX6_init_16, sX6_init_19, sX6_init_19i, sX6_init_20, sX6_init_23, sX6_init_26, sX6_init_27, sX6_init_30, sX6_init_30i, sX6_init_31, sX6_init_34, sX6_init_37, sX6_init_38, sX6_init_39, sX6_init_41, sX6_init_44, sX6_init_47, sX6_init_48, sX6_init_49, sX6_init_52, sX6_init_52i, sX6_init_53, sX6_init_54, sX6_init_57, sX6_init_60, sX6_init_61, sX6_init_64, sX6_init_64i, sX6_init_65, sX6_init_66, sX6_init_69, sX6_init_72, sX6_init_73, sX6_init_76, sX6_init_76i, sX6_init_77, sX6_init_78, sX6_init_81, sX6_init_84, bd_v, bi_v, Option.toList, List.cons_append, List.nil_append, List.length_cons, List.length_nil, Nat.reduceAdd, Nat.reduceLeDiff, ck_in, nI_add, nI_1, if_false, if_true, bb, gf_0, gf_1, gf_2, gf_3, gf_4, gf_5, pf_0, pf_1, pf_2, pf_3, pf_4, pf_5, List.set_cons_zero, List.set_cons_succ]
    rw [bi_c c1]
    simp only [sX6_init_0, sX6_init_1, sX6_init_4, sX6_init_5, sX6_init_8, sX6_init_8i, sX6_init_9, sX6_init_12, sX6_init_15, sX6_init_16, sX6_init_19, sX6_init_19i, sX6_init_20, sX6_init_23, sX6_init_26, sX6_init_27, sX6_init_30, sX6_init_30i, sX6_init_31, sX6_init_34, sX6_init_37, sX6_init_38, sX6_init_39, sX6_init_41, sX6_init_44, sX6_init_47, sX6_init_48, sX6_init_49, sX6_init_52, sX6_init_52i, sX6_init_53, sX6_init_54, sX6_init_57, sX6_init_60, sX6_init_61, sX6_init_64, sX6_init_64i, sX6_init_65, sX6_init_66, sX6_init_69, sX6_init_72, sX6_init_73, sX6_init_76, sX6_init_76i, sX6_init_77, sX6_init_78, sX6_init_81, sX6_init_84, bd_v, bi_v, Option.toList, List.cons_append, List.nil_append, List.length_cons, List.length_nil, Nat.reduceAdd, Nat.reduceLeDiff, ck_in, nI_add, nI_1, if_false, if_true, cb, gf_0, gf_1, gf_2, gf_3, gf_4, gf_5, pf_0, pf_1, pf_2, pf_3, pf_4, pf_5, List.set_cons_zero, List.set_cons_succ, hv]
    rw [bi_c d1]
    simp only [sX6_init_0, sX6_init_1, sX6_init_4, sX6_init_5, sX6_init_8, sX6_init_8i, sX6_init_9, sX6_init_12, sX6_init_15, sX6_init_16, sX6_init_19, sX6_init_19i, sX6_init_20, sX6_init_23, sX6_init_26, sX6_init_27, sX6_init_30, sX6_init_30i, sX6_init_31, sX6_init_34, sX6_init_37, sX6_init_38, sX6_init_39, sX6_init_41, sX6_init_44, sX6_init_47, sX6_init_48, sX6_init_49, sX6_init_52, sX6_init_52i, sX6_init_53, sX6_init_54, sX6_init_57, sX6_init_60, sX6_init_61, sX6_init_64, sX6_init_64i, sX6_init_65, sX6_init_66, sX6_init_69, sX6_init_72, sX6_init_73, sX6_init_76, sX6_init_76i, sX6_init_77, sX6_init_78, sX6_init_81, sX6_init_84, bd_v, bi_v, Option.toList, List.cons_append, List.nil_append, List.length_cons, List.length_nil, Nat.reduceAdd, Nat.reduceLeDiff, ck_in, nI_add, nI_1, if_false, if_true, db, gf_0, gf_1, gf_2, gf_3, gf_4, gf_5, pf_0, pf_1, pf_2, pf_3, pf_4, pf_5, List.set_cons_zero, List.set_cons_succ]
    rw [bi_c e1]
    simp only [sX6_init_0, sX6_init_1, sX6_init_4, sX6_init_5, sX6_init_8, sX6_init_8i, sX6_init_9, sX6_init_12, sX6_init_15, sX6_init_16, sX6_init_19, sX6_init_19i, sX6_init_20, sX6_init_23, sX6_init_26, sX6_init_27, sX6_init_30, sX6_init_30i, sX6_init_31, sX6_init_34, sX6_init_37, sX6_init_38, sX6_init_39, sX6_init_41, sX6_init_44, sX6_init_47, sX6_init_48, sX6_init_49, sX6_init_52, sX6_init_52i, sX6_init_53, sX6_init_54, sX6_init_57, sX6_init_60, sX6_init_61, sX6_init_64, sX6_init_64i, sX6_init_65, sX6_init_66, sX6_init_69, sX6_init_72, sX6_init_73, sX6_init_76, sX6_init_76i, sX6_init_77, sX6_init_78, sX6_init_81, sX6_init_84, bd_v, bi_v, Option.toList, List.cons_append, List.nil_append, List.length_cons, List.length_nil, Nat.reduceAdd, Nat.reduceLeDiff, ck_in, nI_add, nI_1, if_false, if_true, eb, gf_0, gf_1, gf_2, gf_3, gf_4, gf_5, pf_0, pf_1, pf_2, pf_3, pf_4, pf_5, List.set_cons_zero, List.set_cons_succ]
    rw [bi_c f1]
    simp only [sX6_init_0, sX6_init_1, sX6_init_4, sX6_init_5, sX6_init_8, sX6_init_8i, sX6_init_9, sX6_init_12, sX6_init_15, sX6_init_16, sX6_init_19, sX6_init_19i, sX6_init_20, sX6_init_23, sX6_init_26, sX6_init_27, sX6_init_30, sX6_init_30i, sX6_init_31, sX6_init_34, sX6_init_37, sX6_init_38, sX6_init_39, sX6_init_41, sX6_init_44, sX6_init_47, sX6_init_48, sX6_init_49, sX6_init_52, sX6_init_52i, sX6_init_53, sX6_init_54, sX6_init_57, sX6_init_60, sX6_init_61, sX6_init_64, sX6_init_64i, sX6_init_65, sX6_init_66, sX6_init_69, sX6_init_72, sX6_init_73, sX6_init_76, sX6_init_76i, sX6_init_77, sX6_init_78, sX6_init_81, sX6_init_84, bd_v, bi_v, Option.toList, List.cons_append, List.nil_append, List.length_cons, List.length_nil, Nat.reduceAdd, Nat.reduceLeDiff, ck_in, nI_add, nI_1, if_false, if_true, fb, gf_0, gf_1, gf_2, gf_3, gf_4, gf_5, pf_0, pf_1, pf_2, pf_3, pf_4, pf_5, List.set_cons_zero, List.set_cons_succ]
    have z1 : b + 1 + 3 + 3 + 3 + 6 + 3 * n + 1 + 6 + 3 * n + 1 + 3 = b + 27 + 6 * n := by omega
    have z2 : k + 1 + 2 + 1 + 2 + 1 + 2 + 1 + 6 + 3 * n + 1 + 6 + 3 * n + 1 + 2 = k + 26 + 6 * n := by omega
    have z3 : t + 2 + 601 + 2 + 13 + 2 + 13 + 6 + 100 + 68 * n + 6 + 100 + 68 * n + 2 + 1 + 64 * n = t + 848 + 200 * n := by omega
    rw [← z1, ← z2, ← z3]
  · rw [up_s, show b + 1 + 3 + 3 + 3 + 6 + 3 * n + 1 = b + 17 + 3 * n by omega, show b + 17 + 3 * n + 6 + 3 * n + 1 = b + 24 + 6 * n by omega]
  · exact a2.fr (fun y h1 h2 => by rw [up_n (by omega), fF y (by omega) (by omega), fE y (by omega) (by omega), fD y (by omega) (by omega), fC y (by omega) (by omega), fB y (by omega) (by omega)])
  · have key : ∀ y, b + 4 ≤ y → y < b + 7 → am_up hF b (obj 6 [.ref (b + 1 + 3 + 3 + 3), .ref (b + 1 + 3 + 3 + 3 + 6 + 3 * n + 1), .ref (b + 1 + 3 + 3 + 3 + 6 + 3 * n + 1 + 6 + 3 * n + 1), .ref (b + 1), .ref (b + 1 + 3), .ref (b + 1 + 3 + 3)]) y = hB y := fun y h1 h2 => by rw [up_n (by omega), fF y (by omega) (by omega), fE y (by omega) (by omega), fD y (by omega) (by omega), fC y (by omega) (by omega)]
    exact ⟨(key _ (by omega) (by omega)).trans b2.1, (key _ (by omega) (by omega)).trans b2.2.1, (key _ (by omega) (by omega)).trans b2.2.2.1, b2.2.2.2⟩
  · have key : ∀ y, b + 7 ≤ y → y < b + 10 → am_up hF b (obj 6 [.ref (b + 1 + 3 + 3 + 3), .ref (b + 1 + 3 + 3 + 3 + 6 + 3 * n + 1), .ref (b + 1 + 3 + 3 + 3 + 6 + 3 * n + 1 + 6 + 3 * n + 1), .ref (b + 1), .ref (b + 1 + 3), .ref (b + 1 + 3 + 3)]) y = hC y := fun y h1 h2 => by rw [up_n (by omega), fF y (by omega) (by omega), fE y (by omega) (by omega), fD y (by omega) (by omega)]
    exact ⟨(key _ (by omega) (by omega)).trans c2.1, (key _ (by omega) (by omega)).trans c2.2.1, (key _ (by omega) (by omega)).trans c2.2.2.1, c2.2.2.2⟩
  · refine ShS.lv ?_ (fun _ _ => rfl)
    exact d2.fr (fun y h1 h2 => by rw [up_n (by omega), fF y (by omega) (by omega), fE y (by omega) (by omega)])
  · rw [show b + 17 + 3 * n = b + 1 + 3 + 3 + 3 + 6 + 3 * n + 1 by omega]
    exact e2.fr (fun y h1 h2 => by rw [up_n (by omega), fF y (by omega) (by omega)])
  · rw [show b + 24 + 6 * n = b + 1 + 3 + 3 + 3 + 6 + 3 * n + 1 + 6 + 3 * n + 1 by omega]
    exact f2.fr (fun y h1 h2 => by rw [up_n (by omega)])
  · intro y hy
    rw [up_n (by omega), fF y (by omega) (by omega), fE y (by omega) (by omega), fD y (by omega) (by omega), fC y (by omega) (by omega), fB y (by omega) (by omega), fA y (by omega)]
