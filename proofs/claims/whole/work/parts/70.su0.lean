/-! the law: its loop -/
theorem and15 (v : Int32) : ∃ k, k < 16 ∧ v &&& 15 = nI k := by
  refine ⟨un v % 16, Nat.mod_lt _ (by decide), ?_⟩
  apply un_inj
  rw [un_nI (by omega)]
  unfold un
  rw [Int32.toBitVec_and, BitVec.toNat_and, show (15 : Int32).toBitVec.toNat = 2 ^ 4 - 1 from rfl, Nat.and_two_pow_sub_one_eq_mod]
theorem lt_4 {L i : Nat} (hL : L ≤ 2049) (hi : i ≤ 2050) : (nI L - 4 < nI i) ↔ L < i + 4 := by
  by_cases h : 4 ≤ L
  · have e : nI L - 4 = nI (L - 4) := by
      rw [show nI L = nI (L - 4) + nI 4 by rw [nI_add]; congr 1; omega, show (4 : Int32) = nI 4 from rfl, Int32.add_sub_cancel]
    rw [e, nI_ltI (by omega) (by omega)]
    omega
  · have h0 : (0 : Int32) ≤ nI i := nI_pos' (by omega)
    have h1 : nI L - 4 < 0 := by
      have hc : L = 0 ∨ L = 1 ∨ L = 2 ∨ L = 3 := by omega
      rcases hc with rfl | rfl | rfl | rfl <;> decide
    exact ⟨fun _ => by omega, fun _ => Int32.lt_of_lt_of_le h1 h0⟩
section
variable {b L : Nat} {xs : Nat → Int32} {x m out n : Nat}
theorem law_one {h : Nat → Option va_E} {σ : St} {z : Nat × Nat × Nat} {i : Nat} (I : LI h b L xs x m out n σ) (hi : i + 4 ≤ L) (l1 : L ≤ 100000) (w5 w6 : Value) : ∃ pc, rn 135 42 [.ref b, .ref x, .ref m, .ref out, .int (nI i), w5, w6] [] (h, z) = rn 135 pc [.ref b, .ref x, .ref m, .ref out, .int (nI i), w5, w6] [] (h, z) ∧ CS pc h b L xs x m out n i z w5 w6 := by
  have i1 := I.1
  have j0 : i < L := by omega
  have s0 : rn 135 42 [.ref b, .ref x, .ref m, .ref out, .int (nI i), w5, w6] [] (h, z) = rn 135 49 [.ref b, .ref x, .ref m, .ref out, .int (nI i), w5, w6] [.int (xs i &&& 15)] (h, z) := by
    simp only [sL_law_42, sL_law_43, sL_law_45, sL_law_46, sL_law_48, i1, al4 j0 l1]
  obtain ⟨k, hk, e⟩ := and15 (xs i)
  rw [e] at s0
  have hd : ∀ (y : Int32), (y.toInt < 0 ∨ 11 < y.toInt) → rn 135 49 [.ref b, .ref x, .ref m, .ref out, .int (nI i), w5, w6] [.int y] (h, z) = rn 135 727 [.ref b, .ref x, .ref m, .ref out, .int (nI i), w5, w6] [] (h, z) := fun y hy => sL_law_49_d _ y _ _ hy
  have cd : CS 727 h b L xs x m out n i z w5 w6 := ⟨h, σ, z, w5, w6, rfl, I, Nat.le_succ _, Nat.le_add_right _ _⟩
  have hc : k = 0 ∨ k = 1 ∨ k = 2 ∨ k = 3 ∨ k = 4 ∨ k = 5 ∨ k = 6 ∨ k = 7 ∨ k = 8 ∨ k = 9 ∨ k = 10 ∨ k = 11 ∨ k = 12 ∨ k = 13 ∨ k = 14 ∨ k = 15 := by omega
  rcases hc with rfl | rfl | rfl | rfl | rfl | rfl | rfl | rfl | rfl | rfl | rfl | rfl | rfl | rfl | rfl | rfl
  · exact ⟨112, s0.trans (sL_law_49_0 _ _ _), C_feed I hi l1 w5 w6⟩
  · exact ⟨175, s0.trans (sL_law_49_1 _ _ _), C_put I hi l1 w5 w6⟩
  · exact ⟨231, s0.trans (sL_law_49_2 _ _ _), C_has I hi l1 w5 w6⟩
  · exact ⟨282, s0.trans (sL_law_49_3 _ _ _), C_find I hi l1 w5 w6⟩
  · exact ⟨326, s0.trans (sL_law_49_4 _ _ _), C_save I hi l1 w5 w6⟩
  · exact ⟨370, s0.trans (sL_law_49_5 _ _ _), C_crash I hi l1 w5 w6⟩
  · exact ⟨426, s0.trans (sL_law_49_6 _ _ _), C_poke I hi l1 w5 w6⟩
  · exact ⟨486, s0.trans (sL_law_49_7 _ _ _), C_pokeJ I hi l1 w5 w6⟩
  · exact ⟨534, s0.trans (sL_law_49_8 _ _ _), C_bad I w5 w6⟩
  · exact ⟨547, s0.trans (sL_law_49_9 _ _ _), C_byte I hi l1 w5 w6⟩
  · exact ⟨615, s0.trans (sL_law_49_10 _ _ _), C_entry I hi l1 w5 w6⟩
  · exact ⟨671, s0.trans (sL_law_49_11 _ _ _), C_count I hi l1 w5 w6⟩
  · exact ⟨727, s0.trans (hd _ (by decide)), cd⟩
  · exact ⟨727, s0.trans (hd _ (by decide)), cd⟩
  · exact ⟨727, s0.trans (hd _ (by decide)), cd⟩
  · exact ⟨727, s0.trans (hd _ (by decide)), cd⟩
theorem law_l (hL : L ≤ 2049) : ∀ (r i : Nat) (h : Nat → Option va_E) (σ : St) (z : Nat × Nat × Nat) (w5 w6 : Value), L < i + 4 * (r + 1) → i ≤ L + 1 → LI h b L xs x m out n σ → ∃ (h' : Nat → Option va_E) (z' : Nat × Nat × Nat), rn 135 33 [.ref b, .ref x, .ref m, .ref out, .int (nI i), w5, w6] [] (h, z) = some (.inl (some (.int 1)), (h', z')) ∧ z'.2.1 ≤ z.2.1 + r ∧ z'.2.2 ≤ z.2.2 + 6 * r := by
  intro r
  induction r with
  | zero =>
    intro i h σ z w5 w6 h1 h2 I
    have i1 := I.1
    have q : nI L - 4 < nI i := (lt_4 hL (by omega)).mpr (by omega)
    refine ⟨h, z, ?_, Nat.le_refl _, Nat.le_refl _⟩
    rw [sL_law_33]
    simp only [sL_law_35, sL_law_36, sL_law_37, sL_law_38, sL_law_39, sL_law_733, sL_law_734, sL_law_734t, i1, ln4, eq_true q, if_true]
  | succ r ih =>
    intro i h σ z w5 w6 h1 h2 I
    have i1 := I.1
    by_cases t : L < i + 4
    · have q : nI L - 4 < nI i := (lt_4 hL (by omega)).mpr (by omega)
      refine ⟨h, z, ?_, Nat.le_add_right _ _, Nat.le_add_right _ _⟩
      rw [sL_law_33]
      simp only [sL_law_35, sL_law_36, sL_law_37, sL_law_38, sL_law_39, sL_law_733, sL_law_734, sL_law_734t, i1, ln4, eq_true q, if_true]
    · have q : ¬ (nI L - 4 < nI i) := mt (lt_4 hL (by omega)).mp t
      obtain ⟨pc, e1, h', σ', z', v5, v6, e2, I', k1', k2'⟩ := law_one (z := z) (i := i) I (by omega) (by omega) w5 w6
      obtain ⟨h'', z'', e3, k3, k4⟩ := ih (i + 4) h' σ' z' v5 v6 (by omega) (by omega) I'
      refine ⟨h'', z'', ?_, by omega, by omega⟩
      have e4 : nI i + 4 = nI (i + 4) := nI_add i 4
      rw [sL_law_33]
      simp only [sL_law_35, sL_law_36, sL_law_37, sL_law_38, sL_law_39, i1, ln4, eq_false q, if_false]
      refine e1.trans (e2.trans ?_)
      simp only [sL_law_727, sL_law_730, e4]
      exact e3
end
/-! the law: its beginning -/
theorem L_cell0 {h : Nat → Option va_E} {b L : Nat} {xs : Nat → Int32} {z : Nat × Nat × Nat} (hL : L ≤ 2049) (hb : h b = some (.inl (4, L, .inl xs))) : cl 123 [.ref b, .int 0] (h, z) = some (.inl (some (.int (if L = 0 then 0 else xs 0))), (h, z)) := by
  rw [eL_cell]
  by_cases t : L = 0
  · have q : nI L ≤ 0 := by rw [t]; decide
    simp only [sL_cell_0, sL_cell_1, sL_cell_2, sL_cell_3, sL_cell_6, sL_cell_7, sL_cell_8, sL_cell_9, sL_cell_12, sL_cell_13, hb, ln4, eq_true q, eq_true t, if_true]
  · have q : ¬ nI L ≤ 0 := nI_nle (by omega) (by omega)
    have a := al4 (n := L) (k := 0) (f := xs) (K := fun v => rn 123 9 [.ref b, .int 0] [.int v] (h, z)) (by omega) (by omega)
    rw [nI_0] at a
    simp only [sL_cell_0, sL_cell_1, sL_cell_2, sL_cell_3, sL_cell_6, sL_cell_7, sL_cell_8, sL_cell_9, sL_cell_12, sL_cell_13, hb, ln4, eq_false q, eq_false t, if_false] at a ⊢
    exact a
theorem law_all {b base L : Nat} {xs : Nat → Int32} (hb : b < base) (hL : L ≤ 2049) : ∃ σ' : am_S, cl 135 [.ref b] (fun a => if a = b then some (.inl (4, L, .inl xs)) else none, base, 0, 0) = some (.inl (some (.int 1)), σ') ∧ σ'.2.2.1 ≤ 603072 ∧ σ'.2.2.2 ≤ 7190184 := by
  obtain ⟨B, rfl⟩ : ∃ B, base = B + 1 := ⟨base - 1, by omega⟩
  obtain ⟨h0, g0⟩ : ∃ h0 : Nat → Option va_E, (fun a => if a = b then some (.inl (4, L, .inl xs)) else none) = h0 := ⟨_, rfl⟩
  have hb0 : h0 b = some (.inl (4, L, .inl xs)) := by rw [← g0]; exact if_pos rfl
  rw [g0]
  obtain ⟨q, hq⟩ : ∃ q : Int32, (if L = 0 then 0 else xs 0) = q := ⟨_, rfl⟩
  obtain ⟨n, hn⟩ : ∃ n, npg q = n := ⟨_, rfl⟩
  have hnb := npg_b q
  rw [hn] at hnb
  obtain ⟨N, hN⟩ : ∃ N, B + 1 + 27 + 6 * n = N + 1 := ⟨B + 27 + 6 * n, by omega⟩
  -- the object
  have hb1 : am_up h0 (B + 1) (.inr (6, [.null, .null, .null, .null, .null, .null])) b = some (.inl (4, L, .inl xs)) := by rw [up_n (by omega)]; exact hb0
  obtain ⟨h1, e1, c1, f1⟩ := F_init (h := am_up h0 (B + 1) (.inr (6, [.null, .null, .null, .null, .null, .null]))) (b := B + 1) (k := 1) (t := 6) q hn (up_s _ _ _)
  rw [hN] at e1 f1
  have hb2 : h1 b = some (.inl (4, L, .inl xs)) := (f1 b (Or.inl (by omega))).trans hb1
  -- the reference
  have hb3 : am_up h1 (N + 1) (.inr (7, [.int 0, .int 0, .null, .null, .null, .null, .null, .null, .null, .null, .null, .null, .null, .null, .null, .int 0, .null, .int 0, .null, .null])) b = some (.inl (4, L, .inl xs)) := by rw [up_n (by omega)]; exact hb2
  obtain ⟨K, hK⟩ : ∃ K, 1 + 26 + 6 * n = K := ⟨_, rfl⟩
  obtain ⟨T, hT⟩ : ∃ T, 6 + 848 + 200 * n = T := ⟨_, rfl⟩
  rw [hK, hT] at e1
  obtain ⟨h2, e2, d2⟩ := M_init (h := am_up h1 (N + 1) (.inr (7, [.int 0, .int 0, .null, .null, .null, .null, .null, .null, .null, .null, .null, .null, .null, .null, .null, .int 0, .null, .int 0, .null, .null]))) (m := N + 1) (k := K + 1) (t := T + 20) q hn (up_s _ _ _)
  obtain ⟨T2, hT2⟩ : ∃ T2, T + 20 + 22901 = T2 := ⟨_, rfl⟩
  rw [hT2] at e2
  have I : LI (am_up h2 (N + 1 + 17) (.inl (2, 1, .inr (.inl (fun _ => 0))))) b L xs (B + 1) (N + 1) (N + 1 + 17) n σ0 := by
    refine ⟨?_, ?_, SI0 hnb.1 hnb.2, ⟨0, d2.fr (fun a a1 a2 => up_n (by omega))⟩, ⟨fun _ => 0, up_s _ _ _⟩, by omega, by omega, rfl⟩
    · rw [up_n (by omega), d2.out (by omega)]
      exact hb3
    · refine c1.fr (fun a a1 a2 => ?_)
      rw [up_n (by omega), d2.out (by omega), up_n (by omega)]
  obtain ⟨h3, z3, e3, k3, k4⟩ := law_l hL 512 1 _ σ0 (N + 1 + 18, K + 1 + 16 + 1, T2 + 1) am_jk am_jk (by omega) (by omega) I
  refine ⟨(h3, z3), ?_, by dsimp only at k3 ⊢; omega, by dsimp only at k4 ⊢; omega⟩
  have cA := L_cell0 (z := (B + 2, 1, 6)) hL hb1
  have cB := L_cell0 (z := (N + 2, K + 1, T + 20)) hL hb3
  rw [hq] at cA cB
  have n1 : ¬ (1 : Int32) < 0 := by decide
  have n2 : ¬ 100000 < (1 : Int32).toNatClampNeg := by decide
  have e1 : cl 75 [.ref (B + 1), .int q] (am_up h0 (B + 1) (.inr (6, [.null, .null, .null, .null, .null, .null])), B + 2, 1, 6) = some (.inl none, (h1, N + 1, K, T)) := e1
  have e2 : cl 94 [.ref (N + 1), .int q] (am_up h1 (N + 1) (.inr (7, [.int 0, .int 0, .null, .null, .null, .null, .null, .null, .null, .null, .null, .null, .null, .null, .null, .int 0, .null, .int 0, .null, .null])), N + 2, K + 1, T + 20) = some (.inl none, (h2, N + 17 + 1, K + 1 + 16, T2)) := e2
  rw [eL_law, sL_law_0]
  simp only [sL_law_3, sL_law_3i, sL_law_4, sL_law_5, sL_law_6, sL_law_9, sL_law_12, bd_v, bi_v, Option.toList, List.cons_append, List.nil_append, List.length_cons, List.length_nil, Nat.reduceAdd, Nat.reduceLeDiff, ck_in, nI_add, nI_1, if_false, if_true, Nat.zero_add, cA, e1]
  rw [sL_law_13]
  simp only [sL_law_16, sL_law_16i, sL_law_17, sL_law_18, sL_law_19, sL_law_22, sL_law_25, sL_law_26, bd_v, bi_v, Option.toList, List.cons_append, List.nil_append, List.length_cons, List.length_nil, Nat.reduceAdd, Nat.reduceLeDiff, ck_in, nI_add, nI_1, if_false, if_true, cB, e2]
  rw [sL_law_27 _ _ _ _ _ _ _ n1 n2]
  simp only [sL_law_29, sL_law_30, sL_law_31]
  exact e3
