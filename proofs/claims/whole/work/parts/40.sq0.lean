/-! Shelf: a split -/
theorem pgF_0 (d : Nat) (rs : List Rc) : pgF d rs 0 = nI d := by
  obtain ⟨t, h1, -⟩ := pgF_pg d rs
  rw [h1, pg_0]
theorem pgF_1 (d : Nat) (rs : List Rc) : pgF d rs 1 = nI rs.length := by
  obtain ⟨t, h1, -⟩ := pgF_pg d rs
  rw [h1, pg_1]
theorem pgF_64 (d : Nat) (rs : List Rc) {j : Nat} (h : 64 ≤ j) : pgF d rs j = 0 := by
  obtain ⟨t, h1, h2⟩ := pgF_pg d rs
  rw [h1]
  unfold pgG
  rw [if_neg (by omega)]
  exact h2 j h
theorem cpy_all {g f : Nat → Int32} {n : Nat} (hg : ∀ j, n ≤ j → g j = 0) (hf : ∀ j, n ≤ j → f j = 0) : cpy g f 0 0 n = g := by
  funext j
  by_cases h : j < n
  · rw [cpy_in (by omega) (by omega)]
    congr 1
    omega
  · rw [cpy_out (by omega), hf j (by omega), hg j (by omega)]
section
variable {h : Nat → Option va_E} {z : Nat × Nat × Nat} {s n : Nat} {S : Sh}
theorem split_A (a : ShS h s n S) (w : WF n S) {p : Nat} (hp : p < S.used) (hd : S.dep p < 5) : ∃ (h' : Nat → Option va_E) (tf' : Nat → Int32), cl 65 [.ref s, .int (nI p)] (h, z) = rn 65 23 [.ref s, .int (nI p), .ref (s + 7 + 3 * p), .int (nI (S.dep p)), am_jk, am_jk] [] (h', z) ∧
    ShL h' s n (fun i => pgF (S.dep i) (S.rec i)) (fun i => 2 + tsz (S.rec i)) tf' (D1 S p) S.used S.acts ∧ (∀ e, e < 2 ^ D1 S p → tf' e = nI (tb1 S p e)) ∧ frI s (s + 7 + 3 * n) h h' := by
  have hn : n ≤ 40 := w.2.2.2.1
  have hun : S.used ≤ n := w.2.1
  have hD5 : S.D ≤ 5 := w.1
  have hdD : S.dep p ≤ S.D := w.2.2.2.2.2.2.1 p
  obtain ⟨tf, a1, a2⟩ := a
  have hpg : PgL h (s + 7 + 3 * p) (pgF (S.dep p) (S.rec p)) (2 + tsz (S.rec p)) := a1.2.2.2.2.2 p (by omega)
  have hdp := Page_depth (z := z) hpg
  rw [pgF_0] at hdp
  have hsp := Shelf_page (z := z) a1 hn (k := p) (by omega)
  rw [eX5_split]
  by_cases hD : S.dep p = S.D
  · have hdb := Shelf_double (z := z) a1 (show S.D ≤ 4 by omega)
    have q := (a1.tab (cpy tf tf 0 (2 ^ S.D) (2 ^ S.D))).head (S.D + 1) S.used S.acts
    refine ⟨_, cpy tf tf 0 (2 ^ S.D) (2 ^ S.D), ?_, by unfold D1; rw [if_pos hD]; exact q, ?_, (frI.u (by omega) (by omega)).t (frI.u (by omega) (by omega))⟩
    · have h3 : ¬ ¬ (nI (S.dep p) = nI S.D) := fun z => z (by rw [hD])
      simp only [sX5_split_0, sX5_split_1, sX5_split_2, sX5_split_5, sX5_split_6, sX5_split_7, sX5_split_10, sX5_split_11, sX5_split_12, sX5_split_13, sX5_split_16, sX5_split_19, sX5_split_20, sX5_split_24, sX5_split_27, sX5_split_29, sX5_split_30, sX5_split_32, sX5_split_35, sX5_split_37, sX5_split_38, sX5_split_38i, sX5_split_39, sX5_split_42, sX5_split_43, sX5_split_44, sX5_split_47, sX5_split_48, sX5_split_51, sX5_split_52, sX5_split_55, sX5_split_56, sX5_split_57, sX5_split_58, sX5_split_59, sX5_split_62, sX5_split_64, sX5_split_65, sX5_split_66, sX5_split_67, sX5_split_70, sX5_split_71, sX5_split_74, sX5_split_75, sX5_split_77, sX5_split_78, sX5_split_81, sX5_split_82, sX5_split_85, sX5_split_87, sX5_split_90, sX5_split_91, sX5_split_92, sX5_split_94, sX5_split_95, sX5_split_98, a1.1, hpg.1, gf_0, gf_1, gf_2, gf_3, gf_4, gf_5, pf_0, pf_1, pf_2, pf_3, pf_4, pf_5, List.set_cons_zero, List.set_cons_succ, bd_v, bi_v, Option.toList, List.cons_append, List.nil_append, List.length_cons, List.length_nil, Nat.reduceAdd, Nat.reduceLeDiff, ck_in, nI_add, nI_1, if_false, if_true, hsp, hdp, h3, hdb]
    · intro e he
      unfold D1 at he
      rw [if_pos hD, Nat.pow_succ] at he
      unfold tb1
      rw [if_pos hD]
      unfold dbl
      by_cases h4 : 2 ^ S.D ≤ e ∧ e < 2 ^ S.D + 2 ^ S.D
      · rw [if_pos h4, cpy_in h4.1 h4.2, a2 _ (by omega), Nat.zero_add]
      · rw [if_neg h4, cpy_out (by omega), a2 _ (by omega)]
  · refine ⟨h, tf, ?_, by unfold D1; rw [if_neg hD]; exact a1, ?_, frI.r⟩
    · have h3 : ¬ (nI (S.dep p) = nI S.D) := fun z => hD ((nI_eq (by omega) (by omega)).mp z)
      simp only [sX5_split_0, sX5_split_1, sX5_split_2, sX5_split_5, sX5_split_6, sX5_split_7, sX5_split_10, sX5_split_11, sX5_split_12, sX5_split_13, sX5_split_16, sX5_split_19, sX5_split_20, sX5_split_24, sX5_split_27, sX5_split_29, sX5_split_30, sX5_split_32, sX5_split_35, sX5_split_37, sX5_split_38, sX5_split_38i, sX5_split_39, sX5_split_42, sX5_split_43, sX5_split_44, sX5_split_47, sX5_split_48, sX5_split_51, sX5_split_52, sX5_split_55, sX5_split_56, sX5_split_57, sX5_split_58, sX5_split_59, sX5_split_62, sX5_split_64, sX5_split_65, sX5_split_66, sX5_split_67, sX5_split_70, sX5_split_71, sX5_split_74, sX5_split_75, sX5_split_77, sX5_split_78, sX5_split_81, sX5_split_82, sX5_split_85, sX5_split_87, sX5_split_90, sX5_split_91, sX5_split_92, sX5_split_94, sX5_split_95, sX5_split_98, a1.1, hpg.1, gf_0, gf_1, gf_2, gf_3, gf_4, gf_5, pf_0, pf_1, pf_2, pf_3, pf_4, pf_5, List.set_cons_zero, List.set_cons_succ, bd_v, bi_v, Option.toList, List.cons_append, List.nil_append, List.length_cons, List.length_nil, Nat.reduceAdd, Nat.reduceLeDiff, ck_in, nI_add, nI_1, if_false, if_true, hsp, hdp, h3, not_false_eq_true]
    · intro e he
      unfold D1 at he
      rw [if_neg hD] at he
      unfold tb1
      rw [if_neg hD]
      exact a2 e he
theorem split_B {tf : Nat → Int32} {D : Nat} (a1 : ShL h s n (fun i => pgF (S.dep i) (S.rec i)) (fun i => 2 + tsz (S.rec i)) tf D S.used S.acts) (w : WF n S) (hD : D ≤ 5) {p : Nat} (hp : p < S.used) (hu : S.used < n) (hd : S.dep p < 5) : ∃ h', rn 65 23 [.ref s, .int (nI p), .ref (s + 7 + 3 * p), .int (nI (S.dep p)), am_jk, am_jk] [] (h, z) = some (.inl none, (h', z)) ∧
    ShL h' s n (fun i => pgF ((S.split p).dep i) ((S.split p).rec i)) (fun i => 2 + tsz ((S.split p).rec i)) (rdr tf p S.used (S.dep p) (2 ^ D)) D (S.used + 1) S.acts ∧ frI s (s + 7 + 3 * n) h h' := by
  have hn : n ≤ 40 := w.2.2.2.1
  have hpu : p ≠ S.used := by omega
  have hsz : 2 + tsz (S.rec p) ≤ 60 := w.2.2.2.2.2.1 p
  have hsp := Shelf_page (z := z) a1 hn (k := S.used) (by omega)
  have b1 := a1.head D (S.used + 1) S.acts
  generalize hh1 : am_up h s (obj 5 [.ref (s + 6), .ref (s + 1), .ref (s + 4), .int (nI D), .int (nI (S.used + 1)), .int (nI S.acts)]) = h1 at b1
  have f1 : frI s (s + 7 + 3 * n) h h1 := by rw [← hh1]; exact frI.u (by omega) (by omega)
  obtain ⟨Fs, es, hps, hFs⟩ := b1.2.2.1
  have hpp : PgL h1 (s + 7 + 3 * p) (pgF (S.dep p) (S.rec p)) (2 + tsz (S.rec p)) := b1.2.2.2.2.2 p (by omega)
  have hpu1 : PgL h1 (s + 7 + 3 * S.used) (pgF (S.dep S.used) (S.rec S.used)) (2 + tsz (S.rec S.used)) := b1.2.2.2.2.2 S.used (by omega)
  have c1 := Page_copyFrom (z := z) hps hpp (by omega)
  rw [cpy_all (fun j hj => pgF_64 _ _ hj) hFs] at c1
  have hps2 := (hps.row (pgF (S.dep p) (S.rec p))).endu (2 + tsz (S.rec p))
  generalize hh2 : am_up (am_up h1 (s + 1 + 2) (ints 64 (pgF (S.dep p) (S.rec p)))) (s + 1) (obj 3 [.ref (s + 1 + 1), .int (nI (2 + tsz (S.rec p)))]) = h2 at c1 hps2
  have f2 : fre [s + 1, s + 3] h1 h2 := by rw [← hh2]; exact (fre.u (by simp)).t (fre.u (by simp))
  have hpp2 := hpp.fr f2 (by simp; omega) (by simp; omega) (by simp; omega)
  have hpu2 := hpu1.fr f2 (by simp; omega) (by simp; omega) (by simp; omega)
  have c2 := Page_empty (z := z) hpp2 (fun j hj => pgF_64 _ _ hj) (S.dep p + 1)
  have hpp3 := (hpp2.row (pgG (S.dep p + 1) [] (fun _ => 0))).endu 2
  generalize hh3 : am_up (am_up h2 (s + 7 + 3 * p + 2) (ints 64 (pgG (S.dep p + 1) [] (fun _ => 0)))) (s + 7 + 3 * p) (obj 3 [.ref (s + 7 + 3 * p + 1), .int (nI 2)]) = h3 at c2 hpp3
  have f3 : fre [s + 7 + 3 * p, s + 7 + 3 * p + 2] h2 h3 := by rw [← hh3]; exact (fre.u (by simp)).t (fre.u (by simp))
  have hpu3 := hpu2.fr f3 (by simp; omega) (by simp; omega) (by simp; omega)
  have hps3 := hps2.fr f3 (by simp; omega) (by simp; omega) (by simp; omega)
  have c3 := Page_empty (z := z) hpu3 (fun j hj => pgF_64 _ _ hj) (S.dep p + 1)
  have hpu4 := (hpu3.row (pgG (S.dep p + 1) [] (fun _ => 0))).endu 2
  generalize hh4 : am_up (am_up h3 (s + 7 + 3 * S.used + 2) (ints 64 (pgG (S.dep p + 1) [] (fun _ => 0)))) (s + 7 + 3 * S.used) (obj 3 [.ref (s + 7 + 3 * S.used + 1), .int (nI 2)]) = h4 at c3 hpu4
  have f4 : fre [s + 7 + 3 * S.used, s + 7 + 3 * S.used + 2] h3 h4 := by rw [← hh4]; exact (fre.u (by simp)).t (fre.u (by simp))
  have hpp4 := hpp3.fr f4 (by simp; omega) (by simp; omega) (by simp; omega)
  have hps4 := hps3.fr f4 (by simp; omega) (by simp; omega) (by simp; omega)
  obtain ⟨t, ht1, ht2⟩ := pgF_pg (S.dep p) (S.rec p)
  rw [ht1] at hps4
  obtain ⟨h5, c4, hpp5, hpu5, f5⟩ := Page_dealTo (z := z) (k := S.dep p) hsz (by omega) (by omega) (by omega) hps4 hpp4 hpu4
  have c5 := Page_seal (z := z) hpp5
  rw [seal_pg (fun _ _ => rfl)] at c5
  have hpp6 := hpp5.row (pgF (S.dep p + 1) ((S.rec p).filter (fun x => !hbt (S.dep p) x)))
  generalize hh6 : am_up h5 (s + 7 + 3 * p + 2) (ints 64 (pgF (S.dep p + 1) ((S.rec p).filter (fun x => !hbt (S.dep p) x)))) = h6 at c5 hpp6
  have f6 : fre [s + 7 + 3 * p + 2] h5 h6 := by rw [← hh6]; exact fre.up
  have hpu6 := hpu5.fr f6 (by simp; omega) (by simp; omega) (by simp; omega)
  have c6 := Page_seal (z := z) hpu6
  rw [seal_pg (fun _ _ => rfl)] at c6
  have hpu7 := hpu6.row (pgF (S.dep p + 1) ((S.rec p).filter (hbt (S.dep p))))
  generalize hh7 : am_up h6 (s + 7 + 3 * S.used + 2) (ints 64 (pgF (S.dep p + 1) ((S.rec p).filter (hbt (S.dep p))))) = h7 at c6 hpu7
  have f7 : fre [s + 7 + 3 * S.used + 2] h6 h7 := by rw [← hh7]; exact fre.up
  have hpp7 := hpp6.fr f7 (by simp; omega) (by simp; omega) (by simp; omega)
  have fall : fre [s + 1, s + 3, s + 7 + 3 * p, s + 7 + 3 * p + 2, s + 7 + 3 * S.used, s + 7 + 3 * S.used + 2] h1 h7 := (((((f2.w (by simp)).t (f3.w (by simp))).t (f4.w (by simp))).t (f5.w (by simp))).t (f6.w (by simp))).t (f7.w (by simp))
  have f57 : fre [s + 7 + 3 * p, s + 7 + 3 * p + 2, s + 7 + 3 * S.used, s + 7 + 3 * S.used + 2] h4 h7 := ((f5.t (f6.w (by simp))).t (f7.w (by simp)))
  have hps7 := hps4.fr f57 (by simp; omega) (by simp; omega) (by simp; omega)
  have b7 := b1.pages (h' := h7) (F' := fun i => pgF ((S.split p).dep i) ((S.split p).rec i)) (E' := fun i => 2 + tsz ((S.split p).rec i)) (fall _ (by simp; omega)) (fall _ (by simp; omega)) (fall _ (by simp; omega)) (fall _ (by simp; omega))
    ⟨_, _, hps7, fun j hj => by rw [← ht1]; exact pgF_64 _ _ hj⟩ (fun i hi => by
      by_cases e1 : i = p
      · subst e1
        show PgL h7 _ (pgF _ _) (2 + tsz _)
        rw [dep_p hpu, rcs_p hpu]
        exact hpp7
      · by_cases e2 : i = S.used
        · subst e2
          show PgL h7 _ (pgF _ _) (2 + tsz _)
          rw [dep_u, rcs_u]
          exact hpu7
        · show PgL h7 _ (pgF _ _) (2 + tsz _)
          rw [dep_o e1 e2, rcs_o e1 e2]
          exact (b1.2.2.2.2.2 i hi).fr fall (by simp; omega) (by simp; omega) (by simp; omega))
  have c7 := Shelf_redirect (z := z) (p := p) (u := S.used) (k := S.dep p) b7 hD (by omega)
  have s4 := (fre.t (f3.w (T := [s + 7 + 3 * p, s + 7 + 3 * p + 2, s + 7 + 3 * S.used, s + 7 + 3 * S.used + 2]) (by simp)) (f4.w (by simp)))
  have e2s : h2 s = some (obj 5 [.ref (s + 6), .ref (s + 1), .ref (s + 4), .int (nI D), .int (nI (S.used + 1)), .int (nI S.acts)]) := by rw [f2 _ (by simp)]; exact b1.1
  have e4s : h4 s = some (obj 5 [.ref (s + 6), .ref (s + 1), .ref (s + 4), .int (nI D), .int (nI (S.used + 1)), .int (nI S.acts)]) := by rw [s4 _ (by simp; omega)]; exact e2s
  refine ⟨_, ?_, b7.tab _, (f1.t (frI.of fall (by simp; omega))).t (frI.u (by omega) (by omega))⟩
  rw [sX5_split_23]
  simp only [sX5_split_0, sX5_split_1, sX5_split_2, sX5_split_5, sX5_split_6, sX5_split_7, sX5_split_10, sX5_split_11, sX5_split_12, sX5_split_13, sX5_split_16, sX5_split_19, sX5_split_20, sX5_split_24, sX5_split_27, sX5_split_29, sX5_split_30, sX5_split_32, sX5_split_35, sX5_split_37, sX5_split_38, sX5_split_38i, sX5_split_39, sX5_split_42, sX5_split_43, sX5_split_44, sX5_split_47, sX5_split_48, sX5_split_51, sX5_split_52, sX5_split_55, sX5_split_56, sX5_split_57, sX5_split_58, sX5_split_59, sX5_split_62, sX5_split_64, sX5_split_65, sX5_split_66, sX5_split_67, sX5_split_70, sX5_split_71, sX5_split_74, sX5_split_75, sX5_split_77, sX5_split_78, sX5_split_81, sX5_split_82, sX5_split_85, sX5_split_87, sX5_split_90, sX5_split_91, sX5_split_92, sX5_split_94, sX5_split_95, sX5_split_98, a1.1, gf_0, gf_1, gf_2, gf_3, gf_4, gf_5, pf_0, pf_1, pf_2, pf_3, pf_4, pf_5, List.set_cons_zero, List.set_cons_succ, bd_v, bi_v, Option.toList, List.cons_append, List.nil_append, List.length_cons, List.length_nil, Nat.reduceAdd, Nat.reduceLeDiff, ck_in, nI_add, nI_1, if_false, if_true, hsp, hh1, b1.1, hps.1, c1, hpp2.1, c2, hpu3.1, c3, e4s, hps4.1, c4, hpp5.1, c5, hpu6.1, c6, b7.1, c7]
theorem Shelf_split (a : ShS h s n S) (w : WF n S) {p : Nat} (hp : p < S.used) (hu : S.used < n) (hd : S.dep p < 5) : ∃ h', cl 65 [.ref s, .int (nI p)] (h, z) = some (.inl none, (h', z)) ∧ ShS h' s n (S.split p) ∧ frI s (s + 7 + 3 * n) h h' := by
  have hdD : S.dep p ≤ S.D := w.2.2.2.2.2.2.1 p
  have hD5 : S.D ≤ 5 := w.1
  have hD1 : D1 S p ≤ 5 := by
    unfold D1
    by_cases h1 : S.dep p = S.D
    · rw [if_pos h1]; omega
    · rw [if_neg h1]; exact hD5
  obtain ⟨h1, tf, g1, g2, g3, g4⟩ := split_A (z := z) a w hp hd
  obtain ⟨h2, k1, k2, k3⟩ := split_B (z := z) g2 w hD1 hp hu hd
  refine ⟨h2, g1.trans k1, ⟨_, k2, fun e he => ?_⟩, g4.t k3⟩
  have he : e < 2 ^ D1 S p := he
  have h5 := g3 e he
  obtain ⟨e0, y1, y2, -⟩ := tb1_lt w p e he
  have y3 : S.tab e0 < S.used := w.2.2.2.2.1 e0 y1
  have hun : S.used ≤ n := w.2.1
  have hn : n ≤ 40 := w.2.2.2.1
  show rdr tf p S.used (S.dep p) (2 ^ D1 S p) e = nI (if tb1 S p e = p ∧ e / 2 ^ S.dep p % 2 = 1 then S.used else tb1 S p e)
  unfold rdr
  rw [h5]
  have h6 : nI (tb1 S p e) = nI p ↔ tb1 S p e = p := nI_eq (by omega) (by omega)
  by_cases h7 : tb1 S p e = p ∧ e / 2 ^ S.dep p % 2 = 1
  · rw [if_pos h7, if_pos ⟨he, h6.mpr h7.1, h7.2⟩]
  · rw [if_neg h7, if_neg (fun x => h7 ⟨h6.mp x.2.1, x.2.2⟩)]
end
