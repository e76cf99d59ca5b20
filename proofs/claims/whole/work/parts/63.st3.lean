/-! the reference's calls: byteAt, entry, badAt, count -/
theorem byt_lt (v : Int32) {k : Nat} (hk : k < 4) : un (byt v k) < 256 := by
  have := Nat.mod_lt (un v / 2 ^ (24 - 8 * k)) (show 0 < 256 by omega)
  rw [byt_un hk, un_nI (by omega)]
  exact this
theorem num_iff {F : Nat → Int32} {s : Int32} {p : Nat} (hF : ∀ k, k < 4 → un (F (p + k)) < 256) : s = num F p ↔ ∀ k, k < 4 → F (p + k) = byt s k := by
  constructor
  · intro h
    have e := num_of (f := F) (p := p) (b0 := un (F p)) (b1 := un (F (p + 1))) (b2 := un (F (p + 2))) (b3 := un (F (p + 3))) (nI_un _).symm (nI_un _).symm (nI_un _).symm (nI_un _).symm (hF 0 (by omega)) (hF 1 (by omega)) (hF 2 (by omega)) (hF 3 (by omega))
    have h0 := hF 0 (by omega)
    have h1 := hF 1 (by omega)
    have h2 := hF 2 (by omega)
    have h3 := hF 3 (by omega)
    rw [Nat.add_zero] at h0
    have hs : un s = ((un (F p) * 256 + un (F (p + 1))) * 256 + un (F (p + 2))) * 256 + un (F (p + 3)) := by
      rw [h, e]
      exact pk_tn (by omega)
    intro k hk
    rw [byt_un hk, hs, ← nI_un (F (p + k))]
    congr 1
    match k, hk with
    | 0, _ => simp only [Nat.add_zero, Nat.mul_zero, Nat.sub_zero, Nat.reducePow]; omega
    | 1, _ => simp only [Nat.mul_one, Nat.reduceSub, Nat.reducePow]; omega
    | 2, _ => simp only [Nat.reduceMul, Nat.reduceSub, Nat.reducePow]; omega
    | 3, _ => simp only [Nat.reduceMul, Nat.reduceSub, Nat.reducePow]; omega
  · intro h
    exact (num_byt h).symm
section
variable {h0 h : Nat → Option va_E} {z : Nat × Nat × Nat} {m n : Nat} {c : Int32} {S Sv : Sh} {M J : Nat → Int32} {jl : Nat} {nm : List Int32}
theorem M_byteAt (d : MR h0 m n (S, Sv, M, J, jl, nm) h c) (i : SI n (S, Sv, M, J, jl, nm)) (p k : Int32) : OR (cl 118 [.ref m, .int p, .int k] (h, z)) z h0 m n k1 (opByte n p k (S, Sv, M, J, jl, nm)) := by
  have hn : n ≤ 40 := i.1.2.2.2.1
  have w : WF n S := i.1
  have h1 : 1 ≤ n := by have h2 : 1 ≤ S.used := i.1.2.2.1; have h3 : S.used ≤ n := i.1.2.1; omega
  obtain ⟨aN, aS, aB, aU, aH, aD, aX, aM, aW, aI, aT, aA, aK, aL, aF, aP, rfl, e1, e2, e3, e4, e5⟩ := d
  have e2 : Rl 0 n S aN aS aB aU aH aD aX aM aW aI aT aA := e2
  have e4 : ∀ j, j < 2560 → aK j = M j := e4
  obtain ⟨N, T, V, W, hN, r0⟩ := Rl0_el e2
  have q1 := in_n (p := p) hn h1
  have q2 := in_63 (p := k)
  unfold opByte
  dsimp only
  by_cases a1 : un p < n
  · by_cases a2 : un k < 64
    · rw [if_pos ⟨a1, a2⟩]
      obtain ⟨aP', f1, f2⟩ := X_fill (h0 := h0) (z := z) (m := m) (jl := jl) (fd := nm.length) (c := 0) (aN := aN) (aI := aI) (aA := aA) (aK := aK) (aL := aL) (aF := aF) (aP := aP) w r0 a1
      rw [nI_un] at f1
      have ix : (64 : Int32) * p + k = nI (64 * un p + un k) := by rw [← nI_un p, ← nI_un k, m64, nI_add, nI_un, nI_un]
      have i1 : 64 * un p + un k < 2560 := by omega
      have ev : mskd S M (un p) (un k) = aP' (un k) ^^^ aK (64 * un p + un k) := by
        unfold mskd
        rw [if_pos a2, f2 _ a2, e4 _ i1]
      rw [ev]
      refine or_v (h' := hp h0 m 0 n jl nm.length aN aS aB aU aH aD aX aM aW aI aT aA aK aL aF aP') ?_ ⟨_, _, _, _, _, _, _, _, _, _, _, _, _, _, _, _, rfl, e1, e2, e3, e4, e5⟩
      rw [eX7_byteAt]
      simp only [sX7_byteAt_0, sX7_byteAt_1, sX7_byteAt_2, sX7_byteAt_3, sX7_byteAt_4, sX7_byteAt_7, sX7_byteAt_8, sX7_byteAt_9, sX7_byteAt_12, sX7_byteAt_15, sX7_byteAt_16, sX7_byteAt_17, sX7_byteAt_19, sX7_byteAt_22, sX7_byteAt_25, sX7_byteAt_26, sX7_byteAt_29, sX7_byteAt_30, sX7_byteAt_33, sX7_byteAt_34, sX7_byteAt_37, sX7_byteAt_40, sX7_byteAt_41, sX7_byteAt_42, sX7_byteAt_43, sX7_byteAt_44, sX7_byteAt_47, sX7_byteAt_48, sX7_byteAt_51, sX7_byteAt_52, sX7_byteAt_53, sX7_byteAt_54, sX7_byteAt_57, sX7_byteAt_59, sX7_byteAt_60, sX7_byteAt_61, sX7_byteAt_62, sX7_byteAt_63, sX7_byteAt_64, sX7_byteAt_65, hp_o, hp_1, hp_2, hp_3, hp_4, hp_5, hp_6, hp_7, hp_8, hp_9, hp_10, hp_11, hp_12, hp_13, hp_14, hp_15, hp_16, wp_o, wp_j, wp_f, wp_1, wp_2, wp_3, wp_4, wp_5, wp_6, wp_7, wp_8, wp_9, wp_10, wp_11, wp_12, wp_13, wp_14, wp_15, wp_16, gf_0, pf_0, gf_1, pf_1, gf_2, pf_2, gf_3, pf_3, gf_4, pf_4, gf_5, pf_5, gf_6, pf_6, gf_7, pf_7, gf_8, pf_8, gf_9, pf_9, gf_10, pf_10, gf_11, pf_11, gf_12, pf_12, gf_13, pf_13, gf_14, pf_14, gf_15, pf_15, gf_16, pf_16, gf_17, pf_17, gf_18, pf_18, gf_19, pf_19, List.set_cons_zero, List.set_cons_succ, al_0, as_0, cl0, m8, m10, m12, m32, m40, m64, m400, m4800, bd_v, Option.toList, List.cons_append, List.nil_append, List.length_cons, List.length_nil, Nat.reduceAdd, Nat.reduceLeDiff, ck_in, if_true, if_false, X_in, eq_true (q1.mpr a1), eq_true (q2.mpr a2), show ¬ ((1 : Int32) = 0) by decide, not_false_eq_true, show (0 : Int32) ≤ 0 by decide, f1, al_un a2 (show 64 ≤ 100000 by omega), ix, al_in i1 (show 2560 ≤ 100000 by omega)]
    · rw [if_neg (fun y => a2 y.2)]
      refine or_x (r := 0) ?_ ⟨aN, aS, aB, aU, aH, aD, aX, aM, aW, aI, aT, aA, aK, aL, aF, aP, rfl, e1, e2, e3, e4, e5⟩
      rw [eX7_byteAt]
      simp only [sX7_byteAt_0, sX7_byteAt_1, sX7_byteAt_2, sX7_byteAt_3, sX7_byteAt_4, sX7_byteAt_7, sX7_byteAt_8, sX7_byteAt_9, sX7_byteAt_12, sX7_byteAt_15, sX7_byteAt_16, sX7_byteAt_17, sX7_byteAt_19, sX7_byteAt_22, sX7_byteAt_25, sX7_byteAt_26, sX7_byteAt_29, sX7_byteAt_30, sX7_byteAt_33, sX7_byteAt_34, sX7_byteAt_37, sX7_byteAt_40, sX7_byteAt_41, sX7_byteAt_42, sX7_byteAt_43, sX7_byteAt_44, sX7_byteAt_47, sX7_byteAt_48, sX7_byteAt_51, sX7_byteAt_52, sX7_byteAt_53, sX7_byteAt_54, sX7_byteAt_57, sX7_byteAt_59, sX7_byteAt_60, sX7_byteAt_61, sX7_byteAt_62, sX7_byteAt_63, sX7_byteAt_64, sX7_byteAt_65, hp_o, hp_1, hp_2, hp_3, hp_4, hp_5, hp_6, hp_7, hp_8, hp_9, hp_10, hp_11, hp_12, hp_13, hp_14, hp_15, hp_16, wp_o, wp_j, wp_f, wp_1, wp_2, wp_3, wp_4, wp_5, wp_6, wp_7, wp_8, wp_9, wp_10, wp_11, wp_12, wp_13, wp_14, wp_15, wp_16, gf_0, pf_0, gf_1, pf_1, gf_2, pf_2, gf_3, pf_3, gf_4, pf_4, gf_5, pf_5, gf_6, pf_6, gf_7, pf_7, gf_8, pf_8, gf_9, pf_9, gf_10, pf_10, gf_11, pf_11, gf_12, pf_12, gf_13, pf_13, gf_14, pf_14, gf_15, pf_15, gf_16, pf_16, gf_17, pf_17, gf_18, pf_18, gf_19, pf_19, List.set_cons_zero, List.set_cons_succ, al_0, as_0, cl0, m8, m10, m12, m32, m40, m64, m400, m4800, bd_v, bi_v, Option.toList, List.cons_append, List.nil_append, List.length_cons, List.length_nil, Nat.reduceAdd, Nat.reduceLeDiff, ck_in, nI_add, nI_1, if_false, if_true, X_in, eq_true (q1.mpr a1), eq_false (mt q2.mp a2), show ¬ ((1 : Int32) = 0) by decide, show ¬ (1 : Int32) ≤ 0 by decide, not_false_eq_true, not_true_eq_false]
      rfl
  · rw [if_neg (fun y => a1 y.1)]
    refine or_x (r := 0) ?_ ⟨aN, aS, aB, aU, aH, aD, aX, aM, aW, aI, aT, aA, aK, aL, aF, aP, rfl, e1, e2, e3, e4, e5⟩
    rw [eX7_byteAt]
    simp only [sX7_byteAt_0, sX7_byteAt_1, sX7_byteAt_2, sX7_byteAt_3, sX7_byteAt_4, sX7_byteAt_7, sX7_byteAt_8, sX7_byteAt_9, sX7_byteAt_12, sX7_byteAt_15, sX7_byteAt_16, sX7_byteAt_17, sX7_byteAt_19, sX7_byteAt_22, sX7_byteAt_25, sX7_byteAt_26, sX7_byteAt_29, sX7_byteAt_30, sX7_byteAt_33, sX7_byteAt_34, sX7_byteAt_37, sX7_byteAt_40, sX7_byteAt_41, sX7_byteAt_42, sX7_byteAt_43, sX7_byteAt_44, sX7_byteAt_47, sX7_byteAt_48, sX7_byteAt_51, sX7_byteAt_52, sX7_byteAt_53, sX7_byteAt_54, sX7_byteAt_57, sX7_byteAt_59, sX7_byteAt_60, sX7_byteAt_61, sX7_byteAt_62, sX7_byteAt_63, sX7_byteAt_64, sX7_byteAt_65, hp_o, hp_1, hp_2, hp_3, hp_4, hp_5, hp_6, hp_7, hp_8, hp_9, hp_10, hp_11, hp_12, hp_13, hp_14, hp_15, hp_16, wp_o, wp_j, wp_f, wp_1, wp_2, wp_3, wp_4, wp_5, wp_6, wp_7, wp_8, wp_9, wp_10, wp_11, wp_12, wp_13, wp_14, wp_15, wp_16, gf_0, pf_0, gf_1, pf_1, gf_2, pf_2, gf_3, pf_3, gf_4, pf_4, gf_5, pf_5, gf_6, pf_6, gf_7, pf_7, gf_8, pf_8, gf_9, pf_9, gf_10, pf_10, gf_11, pf_11, gf_12, pf_12, gf_13, pf_13, gf_14, pf_14, gf_15, pf_15, gf_16, pf_16, gf_17, pf_17, gf_18, pf_18, gf_19, pf_19, List.set_cons_zero, List.set_cons_succ, al_0, as_0, cl0, m8, m10, m12, m32, m40, m64, m400, m4800, bd_v, bi_v, Option.toList, List.cons_append, List.nil_append, List.length_cons, List.length_nil, Nat.reduceAdd, Nat.reduceLeDiff, ck_in, nI_add, nI_1, if_false, if_true, X_in, eq_false (mt q1.mp a1), show ¬ (1 : Int32) ≤ 0 by decide, not_false_eq_true, not_true_eq_false]
    rfl
theorem M_entry (d : MR h0 m n (S, Sv, M, J, jl, nm) h c) (i : SI n (S, Sv, M, J, jl, nm)) (e : Int32) : OR (cl 119 [.ref m, .int e] (h, z)) z h0 m n k1 (opEntry e (S, Sv, M, J, jl, nm)) := by
  have w : WF n S := i.1
  have hD : S.D ≤ 5 := w.1
  have h32 := pow32 hD
  have hpos := Nat.two_pow_pos S.D
  obtain ⟨aN, aS, aB, aU, aH, aD, aX, aM, aW, aI, aT, aA, aK, aL, aF, aP, rfl, e1, e2, e3, e4, e5⟩ := d
  have e2 : Rl 0 n S aN aS aB aU aH aD aX aM aW aI aT aA := e2
  obtain ⟨N, T, V, W, hN, r0⟩ := Rl0_el e2
  have hI := r0.1.1
  have q : ((0 : Int32) ≤ e ∧ e ≤ nI (2 ^ S.D) - 1) ↔ un e < 2 ^ S.D := by
    have e' : nI (2 ^ S.D) - 1 = nI (2 ^ S.D - 1) := pk_sub (b := 1) (by omega)
    have e0 : ((0 : Int32) ≤ e) ↔ (0 ≤ un e ∧ un e < 2 ^ 31) := le_un (k := 0) (by omega)
    rw [e', e0, ge_un (by omega)]
    omega
  unfold opEntry
  dsimp only
  by_cases a : un e < 2 ^ S.D
  · rw [if_pos a]
    have ta := r0.2.2.2.1 (un e) a
    have i1 : un e < 96 := by omega
    refine or_v (h' := hp h0 m 0 n jl nm.length aN aS aB aU aH aD aX aM aW aI aT aA aK aL aF aP) ?_ ⟨_, _, _, _, _, _, _, _, _, _, _, _, _, _, _, _, rfl, e1, e2, e3, e4, e5⟩
    rw [eX7_entry]
    simp only [sX7_entry_0, sX7_entry_1, sX7_entry_2, sX7_entry_3, sX7_entry_4, sX7_entry_5, sX7_entry_8, sX7_entry_9, sX7_entry_10, sX7_entry_11, sX7_entry_12, sX7_entry_13, sX7_entry_16, sX7_entry_19, sX7_entry_20, sX7_entry_23, sX7_entry_24, sX7_entry_27, sX7_entry_28, sX7_entry_31, sX7_entry_34, sX7_entry_35, sX7_entry_38, sX7_entry_39, sX7_entry_42, sX7_entry_43, sX7_entry_44, hp_o, hp_1, hp_2, hp_3, hp_4, hp_5, hp_6, hp_7, hp_8, hp_9, hp_10, hp_11, hp_12, hp_13, hp_14, hp_15, hp_16, wp_o, wp_j, wp_f, wp_1, wp_2, wp_3, wp_4, wp_5, wp_6, wp_7, wp_8, wp_9, wp_10, wp_11, wp_12, wp_13, wp_14, wp_15, wp_16, gf_0, pf_0, gf_1, pf_1, gf_2, pf_2, gf_3, pf_3, gf_4, pf_4, gf_5, pf_5, gf_6, pf_6, gf_7, pf_7, gf_8, pf_8, gf_9, pf_9, gf_10, pf_10, gf_11, pf_11, gf_12, pf_12, gf_13, pf_13, gf_14, pf_14, gf_15, pf_15, gf_16, pf_16, gf_17, pf_17, gf_18, pf_18, gf_19, pf_19, List.set_cons_zero, List.set_cons_succ, al_0, as_0, cl0, m8, m10, m12, m32, m40, m64, m400, m4800, bd_v, bi_v, Option.toList, List.cons_append, List.nil_append, List.length_cons, List.length_nil, Nat.reduceAdd, Nat.reduceLeDiff, ck_in, nI_add, nI_1, if_false, if_true, hI, sh1 _ hD, X_in, eq_true (q.mpr a), show ¬ ((1 : Int32) = 0) by decide, show (0 : Int32) ≤ 0 by decide, al_un i1 (show 96 ≤ 100000 by omega), ta]
  · rw [if_neg a]
    refine or_x (r := 0) ?_ ⟨aN, aS, aB, aU, aH, aD, aX, aM, aW, aI, aT, aA, aK, aL, aF, aP, rfl, e1, e2, e3, e4, e5⟩
    rw [eX7_entry]
    simp only [sX7_entry_0, sX7_entry_1, sX7_entry_2, sX7_entry_3, sX7_entry_4, sX7_entry_5, sX7_entry_8, sX7_entry_9, sX7_entry_10, sX7_entry_11, sX7_entry_12, sX7_entry_13, sX7_entry_16, sX7_entry_19, sX7_entry_20, sX7_entry_23, sX7_entry_24, sX7_entry_27, sX7_entry_28, sX7_entry_31, sX7_entry_34, sX7_entry_35, sX7_entry_38, sX7_entry_39, sX7_entry_42, sX7_entry_43, sX7_entry_44, hp_o, hp_1, hp_2, hp_3, hp_4, hp_5, hp_6, hp_7, hp_8, hp_9, hp_10, hp_11, hp_12, hp_13, hp_14, hp_15, hp_16, wp_o, wp_j, wp_f, wp_1, wp_2, wp_3, wp_4, wp_5, wp_6, wp_7, wp_8, wp_9, wp_10, wp_11, wp_12, wp_13, wp_14, wp_15, wp_16, gf_0, pf_0, gf_1, pf_1, gf_2, pf_2, gf_3, pf_3, gf_4, pf_4, gf_5, pf_5, gf_6, pf_6, gf_7, pf_7, gf_8, pf_8, gf_9, pf_9, gf_10, pf_10, gf_11, pf_11, gf_12, pf_12, gf_13, pf_13, gf_14, pf_14, gf_15, pf_15, gf_16, pf_16, gf_17, pf_17, gf_18, pf_18, gf_19, pf_19, List.set_cons_zero, List.set_cons_succ, al_0, as_0, cl0, m8, m10, m12, m32, m40, m64, m400, m4800, bd_v, bi_v, Option.toList, List.cons_append, List.nil_append, List.length_cons, List.length_nil, Nat.reduceAdd, Nat.reduceLeDiff, ck_in, nI_add, nI_1, if_false, if_true, hI, sh1 _ hD, X_in, eq_false (mt q.mp a), show ¬ (1 : Int32) ≤ 0 by decide]
    rfl
end
section
variable {h0 : Nat → Option va_E} {z : Nat × Nat × Nat} {m n jl fd : Nat} {c : Int32} {aN aS aB aU aH aD aX aM aW aI aT aA aK aL aF aP : Nat → Int32} {S : Sh} {N : Nat} {T : Nat → List Int32} {V : Nat → Int32} {W : Nat → List Nat} {iD iA : Int32} {p : Nat}
theorem bad_s {F : Nat → Int32} (hpn : p < 40) (hF : ∀ j, j < 60 → aP j ^^^ aK (64 * p + j) = F j) : ∀ (r k : Nat) (s : Int32), k + r = 60 → rn 116 24 [.ref m, .int (nI p), .int s, .int (nI k)] [] ((hp h0 m c n jl fd aN aS aB aU aH aD aX aM aW aI aT aA aK aL aF aP), z) = rn 116 59 [.ref m, .int (nI p), .int (sm mix F k r s), .int (nI 60)] [] ((hp h0 m c n jl fd aN aS aB aU aH aD aX aM aW aI aT aA aK aL aF aP), z) := by
  intro r
  induction r with
  | zero =>
    intro k s hk
    have h1 : (60 : Int32) ≤ nI k := by rw [show (60 : Int32) = nI 60 from rfl, nI_leI (by omega) (by omega)]; omega
    rw [sX7_badAt_24, sm]
    simp only [sX7_badAt_0, sX7_badAt_1, sX7_badAt_2, sX7_badAt_5, sX7_badAt_6, sX7_badAt_7, sX7_badAt_8, sX7_badAt_9, sX7_badAt_12, sX7_badAt_15, sX7_badAt_16, sX7_badAt_17, sX7_badAt_20, sX7_badAt_21, sX7_badAt_22, sX7_badAt_23, sX7_badAt_25, sX7_badAt_27, sX7_badAt_30, sX7_badAt_31, sX7_badAt_32, sX7_badAt_35, sX7_badAt_36, sX7_badAt_37, sX7_badAt_38, sX7_badAt_41, sX7_badAt_43, sX7_badAt_44, sX7_badAt_45, sX7_badAt_46, sX7_badAt_47, sX7_badAt_48, sX7_badAt_49, sX7_badAt_52, sX7_badAt_53, sX7_badAt_56, sX7_badAt_60, sX7_badAt_61, sX7_badAt_62, sX7_badAt_63, sX7_badAt_66, sX7_badAt_67, sX7_badAt_69, sX7_badAt_71, sX7_badAt_72, sX7_badAt_73, sX7_badAt_74, sX7_badAt_75, sX7_badAt_78, sX7_badAt_79, sX7_badAt_80, sX7_badAt_83, sX7_badAt_85, sX7_badAt_86, sX7_badAt_87, sX7_badAt_88, sX7_badAt_89, sX7_badAt_92, sX7_badAt_94, sX7_badAt_95, sX7_badAt_96, sX7_badAt_98, sX7_badAt_99, sX7_badAt_100, sX7_badAt_101, sX7_badAt_102, sX7_badAt_103, sX7_badAt_106, sX7_badAt_107, sX7_badAt_108, sX7_badAt_111, sX7_badAt_114, sX7_badAt_117, sX7_badAt_120, sX7_badAt_121, h1, if_true]
    rw [show k = 60 by omega]
  | succ r ih =>
    intro k s hk
    have h1 : ¬ (60 : Int32) ≤ nI k := by rw [show (60 : Int32) = nI 60 from rfl, nI_leI (by omega) (by omega)]; omega
    have i1 : k < 64 := by omega
    have i2 : 64 * p + k < 2560 := by omega
    rw [sX7_badAt_24, sm]
    simp only [sX7_badAt_0, sX7_badAt_1, sX7_badAt_2, sX7_badAt_5, sX7_badAt_6, sX7_badAt_7, sX7_badAt_8, sX7_badAt_9, sX7_badAt_12, sX7_badAt_15, sX7_badAt_16, sX7_badAt_17, sX7_badAt_20, sX7_badAt_21, sX7_badAt_22, sX7_badAt_23, sX7_badAt_25, sX7_badAt_27, sX7_badAt_30, sX7_badAt_31, sX7_badAt_32, sX7_badAt_35, sX7_badAt_36, sX7_badAt_37, sX7_badAt_38, sX7_badAt_41, sX7_badAt_43, sX7_badAt_44, sX7_badAt_45, sX7_badAt_46, sX7_badAt_47, sX7_badAt_48, sX7_badAt_49, sX7_badAt_52, sX7_badAt_53, sX7_badAt_56, sX7_badAt_60, sX7_badAt_61, sX7_badAt_62, sX7_badAt_63, sX7_badAt_66, sX7_badAt_67, sX7_badAt_69, sX7_badAt_71, sX7_badAt_72, sX7_badAt_73, sX7_badAt_74, sX7_badAt_75, sX7_badAt_78, sX7_badAt_79, sX7_badAt_80, sX7_badAt_83, sX7_badAt_85, sX7_badAt_86, sX7_badAt_87, sX7_badAt_88, sX7_badAt_89, sX7_badAt_92, sX7_badAt_94, sX7_badAt_95, sX7_badAt_96, sX7_badAt_98, sX7_badAt_99, sX7_badAt_100, sX7_badAt_101, sX7_badAt_102, sX7_badAt_103, sX7_badAt_106, sX7_badAt_107, sX7_badAt_108, sX7_badAt_111, sX7_badAt_114, sX7_badAt_117, sX7_badAt_120, sX7_badAt_121, hp_o, hp_1, hp_2, hp_3, hp_4, hp_5, hp_6, hp_7, hp_8, hp_9, hp_10, hp_11, hp_12, hp_13, hp_14, hp_15, hp_16, wp_o, wp_j, wp_f, wp_1, wp_2, wp_3, wp_4, wp_5, wp_6, wp_7, wp_8, wp_9, wp_10, wp_11, wp_12, wp_13, wp_14, wp_15, wp_16, gf_0, pf_0, gf_1, pf_1, gf_2, pf_2, gf_3, pf_3, gf_4, pf_4, gf_5, pf_5, gf_6, pf_6, gf_7, pf_7, gf_8, pf_8, gf_9, pf_9, gf_10, pf_10, gf_11, pf_11, gf_12, pf_12, gf_13, pf_13, gf_14, pf_14, gf_15, pf_15, gf_16, pf_16, gf_17, pf_17, gf_18, pf_18, gf_19, pf_19, List.set_cons_zero, List.set_cons_succ, al_0, as_0, cl0, m8, m10, m12, m32, m40, m64, m400, m4800, bd_v, bi_v, Option.toList, List.cons_append, List.nil_append, List.length_cons, List.length_nil, Nat.reduceAdd, Nat.reduceLeDiff, ck_in, nI_add, nI_1, if_false, if_true, h1, al_in i1 (show 64 ≤ 100000 by omega), al_in i2 (show 2560 ≤ 100000 by omega), hF k (by omega), X_more]
    exact ih (k + 1) _ (by omega)
theorem bad_k {F : Nat → Int32} (hpn : p < 40) (hF : ∀ k, k < 4 → aP (60 + k) ^^^ aK (64 * p + 60 + k) = F (60 + k)) (s : Int32) {k : Nat} (hk : k < 4) : rn 116 61 [.ref m, .int (nI p), .int s, .int (nI k)] [] ((hp h0 m c n jl fd aN aS aB aU aH aD aX aM aW aI aT aA aK aL aF aP), z) = if F (60 + k) = byt s k then rn 116 61 [.ref m, .int (nI p), .int s, .int (nI (k + 1))] [] ((hp h0 m c n jl fd aN aS aB aU aH aD aX aM aW aI aT aA aK aL aF aP), z) else some (.inl (some (.int (nI p))), ((hp h0 m c n jl fd aN aS aB aU aH aD aX aM aW aI aT aA aK aL aF aP), z)) := by
  have h1 : ¬ (4 : Int32) ≤ nI k := by rw [show (4 : Int32) = nI 4 from rfl, nI_leI (by omega) (by omega)]; omega
  have i1 : 60 + k < 64 := by omega
  have i2 : 64 * p + 60 + k < 2560 := by omega
  have e1 : (60 : Int32) + nI k = nI (60 + k) := nI_add 60 k
  have e2 : (24 : Int32) - nI (8 * k) = nI (24 - 8 * k) := pk_sub (a := 24) (by omega)
  have e3 : nI (64 * p) + (60 : Int32) = nI (64 * p + 60) := nI_add (64 * p) 60
  rw [sX7_badAt_61]
  by_cases q : F (60 + k) = byt s k
  · rw [if_pos q]
    simp only [sX7_badAt_0, sX7_badAt_1, sX7_badAt_2, sX7_badAt_5, sX7_badAt_6, sX7_badAt_7, sX7_badAt_8, sX7_badAt_9, sX7_badAt_12, sX7_badAt_15, sX7_badAt_16, sX7_badAt_17, sX7_badAt_20, sX7_badAt_21, sX7_badAt_22, sX7_badAt_23, sX7_badAt_25, sX7_badAt_27, sX7_badAt_30, sX7_badAt_31, sX7_badAt_32, sX7_badAt_35, sX7_badAt_36, sX7_badAt_37, sX7_badAt_38, sX7_badAt_41, sX7_badAt_43, sX7_badAt_44, sX7_badAt_45, sX7_badAt_46, sX7_badAt_47, sX7_badAt_48, sX7_badAt_49, sX7_badAt_52, sX7_badAt_53, sX7_badAt_56, sX7_badAt_60, sX7_badAt_62, sX7_badAt_63, sX7_badAt_66, sX7_badAt_67, sX7_badAt_69, sX7_badAt_71, sX7_badAt_72, sX7_badAt_73, sX7_badAt_74, sX7_badAt_75, sX7_badAt_78, sX7_badAt_79, sX7_badAt_80, sX7_badAt_83, sX7_badAt_85, sX7_badAt_86, sX7_badAt_87, sX7_badAt_88, sX7_badAt_89, sX7_badAt_92, sX7_badAt_94, sX7_badAt_95, sX7_badAt_96, sX7_badAt_98, sX7_badAt_99, sX7_badAt_100, sX7_badAt_101, sX7_badAt_102, sX7_badAt_103, sX7_badAt_106, sX7_badAt_107, sX7_badAt_108, sX7_badAt_111, sX7_badAt_114, sX7_badAt_117, sX7_badAt_120, sX7_badAt_121, hp_o, hp_1, hp_2, hp_3, hp_4, hp_5, hp_6, hp_7, hp_8, hp_9, hp_10, hp_11, hp_12, hp_13, hp_14, hp_15, hp_16, wp_o, wp_j, wp_f, wp_1, wp_2, wp_3, wp_4, wp_5, wp_6, wp_7, wp_8, wp_9, wp_10, wp_11, wp_12, wp_13, wp_14, wp_15, wp_16, gf_0, pf_0, gf_1, pf_1, gf_2, pf_2, gf_3, pf_3, gf_4, pf_4, gf_5, pf_5, gf_6, pf_6, gf_7, pf_7, gf_8, pf_8, gf_9, pf_9, gf_10, pf_10, gf_11, pf_11, gf_12, pf_12, gf_13, pf_13, gf_14, pf_14, gf_15, pf_15, gf_16, pf_16, gf_17, pf_17, gf_18, pf_18, gf_19, pf_19, List.set_cons_zero, List.set_cons_succ, al_0, as_0, cl0, m8, m10, m12, m32, m40, m64, m400, m4800, bd_v, bi_v, Option.toList, List.cons_append, List.nil_append, List.length_cons, List.length_nil, Nat.reduceAdd, Nat.reduceLeDiff, ck_in, nI_add, nI_1, if_false, if_true, h1, e1, e2, e3, ash255 s hk, al_in i1 (show 64 ≤ 100000 by omega), al_in i2 (show 2560 ≤ 100000 by omega), hF k hk, eq_true q.symm]
  · rw [if_neg q]
    simp only [sX7_badAt_0, sX7_badAt_1, sX7_badAt_2, sX7_badAt_5, sX7_badAt_6, sX7_badAt_7, sX7_badAt_8, sX7_badAt_9, sX7_badAt_12, sX7_badAt_15, sX7_badAt_16, sX7_badAt_17, sX7_badAt_20, sX7_badAt_21, sX7_badAt_22, sX7_badAt_23, sX7_badAt_25, sX7_badAt_27, sX7_badAt_30, sX7_badAt_31, sX7_badAt_32, sX7_badAt_35, sX7_badAt_36, sX7_badAt_37, sX7_badAt_38, sX7_badAt_41, sX7_badAt_43, sX7_badAt_44, sX7_badAt_45, sX7_badAt_46, sX7_badAt_47, sX7_badAt_48, sX7_badAt_49, sX7_badAt_52, sX7_badAt_53, sX7_badAt_56, sX7_badAt_60, sX7_badAt_62, sX7_badAt_63, sX7_badAt_66, sX7_badAt_67, sX7_badAt_69, sX7_badAt_71, sX7_badAt_72, sX7_badAt_73, sX7_badAt_74, sX7_badAt_75, sX7_badAt_78, sX7_badAt_79, sX7_badAt_80, sX7_badAt_83, sX7_badAt_85, sX7_badAt_86, sX7_badAt_87, sX7_badAt_88, sX7_badAt_89, sX7_badAt_92, sX7_badAt_94, sX7_badAt_95, sX7_badAt_96, sX7_badAt_98, sX7_badAt_99, sX7_badAt_100, sX7_badAt_101, sX7_badAt_102, sX7_badAt_103, sX7_badAt_106, sX7_badAt_107, sX7_badAt_108, sX7_badAt_111, sX7_badAt_114, sX7_badAt_117, sX7_badAt_120, sX7_badAt_121, hp_o, hp_1, hp_2, hp_3, hp_4, hp_5, hp_6, hp_7, hp_8, hp_9, hp_10, hp_11, hp_12, hp_13, hp_14, hp_15, hp_16, wp_o, wp_j, wp_f, wp_1, wp_2, wp_3, wp_4, wp_5, wp_6, wp_7, wp_8, wp_9, wp_10, wp_11, wp_12, wp_13, wp_14, wp_15, wp_16, gf_0, pf_0, gf_1, pf_1, gf_2, pf_2, gf_3, pf_3, gf_4, pf_4, gf_5, pf_5, gf_6, pf_6, gf_7, pf_7, gf_8, pf_8, gf_9, pf_9, gf_10, pf_10, gf_11, pf_11, gf_12, pf_12, gf_13, pf_13, gf_14, pf_14, gf_15, pf_15, gf_16, pf_16, gf_17, pf_17, gf_18, pf_18, gf_19, pf_19, List.set_cons_zero, List.set_cons_succ, al_0, as_0, cl0, m8, m10, m12, m32, m40, m64, m400, m4800, bd_v, bi_v, Option.toList, List.cons_append, List.nil_append, List.length_cons, List.length_nil, Nat.reduceAdd, Nat.reduceLeDiff, ck_in, nI_add, nI_1, if_false, if_true, h1, e1, e2, e3, ash255 s hk, al_in i1 (show 64 ≤ 100000 by omega), al_in i2 (show 2560 ≤ 100000 by omega), hF k hk, eq_false (fun y => q (Eq.symm y))]
theorem bad_o {M : Nat → Int32} (w : WF n S) (r0 : R0 n S N T V W aS aB aU aH aD aX aM aW aT iD iA) (hK : ∀ j, j < 2560 → aK j = M j) (hM : ∀ j, un (M j) < 256) : ∀ (r p : Nat) (aP : Nat → Int32) (w2 w3 : Value), p + r = n → ∃ aP', rn 116 7 [.ref m, .int (nI p), w2, w3] [] ((hp h0 m c n jl fd aN aS aB aU aH aD aX aM aW aI aT aA aK aL aF aP), z) = some (.inl (some (.int (badG (mskd S M) n r))), ((hp h0 m c n jl fd aN aS aB aU aH aD aX aM aW aI aT aA aK aL aF (aP')), z)) := by
  have hn : n ≤ 40 := w.2.2.2.1
  intro r
  induction r with
  | zero =>
    intro p aP w2 w3 hp'
    have h1 : nI n ≤ nI p := by rw [nI_leI (by omega) (by omega)]; omega
    refine ⟨aP, ?_⟩
    rw [sX7_badAt_7]
    simp only [sX7_badAt_0, sX7_badAt_1, sX7_badAt_2, sX7_badAt_5, sX7_badAt_6, sX7_badAt_8, sX7_badAt_9, sX7_badAt_12, sX7_badAt_15, sX7_badAt_16, sX7_badAt_17, sX7_badAt_20, sX7_badAt_21, sX7_badAt_22, sX7_badAt_23, sX7_badAt_25, sX7_badAt_27, sX7_badAt_30, sX7_badAt_31, sX7_badAt_32, sX7_badAt_35, sX7_badAt_36, sX7_badAt_37, sX7_badAt_38, sX7_badAt_41, sX7_badAt_43, sX7_badAt_44, sX7_badAt_45, sX7_badAt_46, sX7_badAt_47, sX7_badAt_48, sX7_badAt_49, sX7_badAt_52, sX7_badAt_53, sX7_badAt_56, sX7_badAt_59, sX7_badAt_60, sX7_badAt_62, sX7_badAt_63, sX7_badAt_66, sX7_badAt_67, sX7_badAt_69, sX7_badAt_71, sX7_badAt_72, sX7_badAt_73, sX7_badAt_74, sX7_badAt_75, sX7_badAt_78, sX7_badAt_79, sX7_badAt_80, sX7_badAt_83, sX7_badAt_85, sX7_badAt_86, sX7_badAt_87, sX7_badAt_88, sX7_badAt_89, sX7_badAt_92, sX7_badAt_94, sX7_badAt_95, sX7_badAt_96, sX7_badAt_98, sX7_badAt_99, sX7_badAt_100, sX7_badAt_101, sX7_badAt_102, sX7_badAt_103, sX7_badAt_106, sX7_badAt_107, sX7_badAt_108, sX7_badAt_111, sX7_badAt_114, sX7_badAt_117, sX7_badAt_120, sX7_badAt_121, hp_o, hp_1, hp_2, hp_3, hp_4, hp_5, hp_6, hp_7, hp_8, hp_9, hp_10, hp_11, hp_12, hp_13, hp_14, hp_15, hp_16, wp_o, wp_j, wp_f, wp_1, wp_2, wp_3, wp_4, wp_5, wp_6, wp_7, wp_8, wp_9, wp_10, wp_11, wp_12, wp_13, wp_14, wp_15, wp_16, gf_0, pf_0, gf_1, pf_1, gf_2, pf_2, gf_3, pf_3, gf_4, pf_4, gf_5, pf_5, gf_6, pf_6, gf_7, pf_7, gf_8, pf_8, gf_9, pf_9, gf_10, pf_10, gf_11, pf_11, gf_12, pf_12, gf_13, pf_13, gf_14, pf_14, gf_15, pf_15, gf_16, pf_16, gf_17, pf_17, gf_18, pf_18, gf_19, pf_19, List.set_cons_zero, List.set_cons_succ, al_0, as_0, cl0, m8, m10, m12, m32, m40, m64, m400, m4800, h1, if_true]
    rfl
  | succ r ih =>
    intro p aP w2 w3 hp'
    have h1 : ¬ nI n ≤ nI p := by rw [nI_leI (by omega) (by omega)]; omega
    obtain ⟨aP1, f1, f2⟩ := X_fill (h0 := h0) (z := z) (m := m) (jl := jl) (fd := fd) (c := c) (aN := aN) (aI := aI) (aA := aA) (aK := aK) (aL := aL) (aF := aF) (aP := aP) w r0 (show p < n by omega)
    have hF : ∀ j, j < 64 → aP1 j ^^^ aK (64 * p + j) = mskd S M p j := fun j hj => by
      unfold mskd
      rw [if_pos hj, f2 j hj, hK _ (by omega)]
    have hF2 : ∀ k, k < 4 → aP1 (60 + k) ^^^ aK (64 * p + 60 + k) = mskd S M p (60 + k) := fun k hk => by
      rw [← hF (60 + k) (by omega), show 64 * p + 60 + k = 64 * p + (60 + k) by omega]
    have hlt : ∀ k, k < 4 → un (mskd S M p (60 + k)) < 256 := fun k hk => by
      unfold mskd
      rw [if_pos (by omega)]
      refine un_xor_lt ?_ (hM _)
      unfold pgF sealb
      rw [putn_at hk]
      exact byt_lt _ hk
    have hnum := num_iff (s := sm mix (mskd S M p) 0 60 0) (p := 60) hlt
    have s1 := bad_s (h0 := h0) (z := z) (m := m) (n := n) (jl := jl) (fd := fd) (c := c) (aN := aN) (aS := aS) (aB := aB) (aU := aU) (aH := aH) (aD := aD) (aX := aX) (aM := aM) (aW := aW) (aI := aI) (aT := aT) (aA := aA) (aK := aK) (aL := aL) (aF := aF) (aP := aP1) (p := p) (F := mskd S M p) (by omega) (fun j hj => hF j (by omega)) 60 0 0 (by omega)
    have start : rn 116 7 [.ref m, .int (nI p), w2, w3] [] ((hp h0 m c n jl fd aN aS aB aU aH aD aX aM aW aI aT aA aK aL aF aP), z) = rn 116 61 [.ref m, .int (nI p), .int (sm mix (mskd S M p) 0 60 0), .int (nI 0)] [] ((hp h0 m c n jl fd aN aS aB aU aH aD aX aM aW aI aT aA aK aL aF (aP1)), z) := by
      rw [sX7_badAt_7]
      simp only [sX7_badAt_0, sX7_badAt_1, sX7_badAt_2, sX7_badAt_5, sX7_badAt_6, sX7_badAt_8, sX7_badAt_9, sX7_badAt_12, sX7_badAt_15, sX7_badAt_16, sX7_badAt_17, sX7_badAt_20, sX7_badAt_21, sX7_badAt_22, sX7_badAt_23, sX7_badAt_25, sX7_badAt_27, sX7_badAt_30, sX7_badAt_31, sX7_badAt_32, sX7_badAt_35, sX7_badAt_36, sX7_badAt_37, sX7_badAt_38, sX7_badAt_41, sX7_badAt_43, sX7_badAt_44, sX7_badAt_45, sX7_badAt_46, sX7_badAt_47, sX7_badAt_48, sX7_badAt_49, sX7_badAt_52, sX7_badAt_53, sX7_badAt_56, sX7_badAt_59, sX7_badAt_60, sX7_badAt_62, sX7_badAt_63, sX7_badAt_66, sX7_badAt_67, sX7_badAt_69, sX7_badAt_71, sX7_badAt_72, sX7_badAt_73, sX7_badAt_74, sX7_badAt_75, sX7_badAt_78, sX7_badAt_79, sX7_badAt_80, sX7_badAt_83, sX7_badAt_85, sX7_badAt_86, sX7_badAt_87, sX7_badAt_88, sX7_badAt_89, sX7_badAt_92, sX7_badAt_94, sX7_badAt_95, sX7_badAt_96, sX7_badAt_98, sX7_badAt_99, sX7_badAt_100, sX7_badAt_101, sX7_badAt_102, sX7_badAt_103, sX7_badAt_106, sX7_badAt_107, sX7_badAt_108, sX7_badAt_111, sX7_badAt_114, sX7_badAt_117, sX7_badAt_120, sX7_badAt_121, hp_o, hp_1, hp_2, hp_3, hp_4, hp_5, hp_6, hp_7, hp_8, hp_9, hp_10, hp_11, hp_12, hp_13, hp_14, hp_15, hp_16, wp_o, wp_j, wp_f, wp_1, wp_2, wp_3, wp_4, wp_5, wp_6, wp_7, wp_8, wp_9, wp_10, wp_11, wp_12, wp_13, wp_14, wp_15, wp_16, gf_0, pf_0, gf_1, pf_1, gf_2, pf_2, gf_3, pf_3, gf_4, pf_4, gf_5, pf_5, gf_6, pf_6, gf_7, pf_7, gf_8, pf_8, gf_9, pf_9, gf_10, pf_10, gf_11, pf_11, gf_12, pf_12, gf_13, pf_13, gf_14, pf_14, gf_15, pf_15, gf_16, pf_16, gf_17, pf_17, gf_18, pf_18, gf_19, pf_19, List.set_cons_zero, List.set_cons_succ, al_0, as_0, cl0, m8, m10, m12, m32, m40, m64, m400, m4800, bd_v, bi_v, Option.toList, List.cons_append, List.nil_append, List.length_cons, List.length_nil, Nat.reduceAdd, Nat.reduceLeDiff, ck_in, nI_add, nI_1, if_false, if_true, h1, f1]
      refine s1.trans ?_
      rw [sX7_badAt_59]
      simp only [sX7_badAt_60]
      rfl
    have st : ∀ k, k < 4 → rn 116 61 [.ref m, .int (nI p), .int (sm mix (mskd S M p) 0 60 0), .int (nI k)] [] ((hp h0 m c n jl fd aN aS aB aU aH aD aX aM aW aI aT aA aK aL aF (aP1)), z) = if mskd S M p (60 + k) = byt (sm mix (mskd S M p) 0 60 0) k then rn 116 61 [.ref m, .int (nI p), .int (sm mix (mskd S M p) 0 60 0), .int (nI (k + 1))] [] ((hp h0 m c n jl fd aN aS aB aU aH aD aX aM aW aI aT aA aK aL aF (aP1)), z) else some (.inl (some (.int (nI p))), ((hp h0 m c n jl fd aN aS aB aU aH aD aX aM aW aI aT aA aK aL aF (aP1)), z)) := fun k hk => bad_k (by omega) hF2 _ hk
    rw [badG, show n - (r + 1) = p by omega]
    by_cases q : sm mix (mskd S M p) 0 60 0 = num (mskd S M p) 60
    · have q' := hnum.mp q
      obtain ⟨aP', y⟩ := ih (p + 1) aP1 (.int (sm mix (mskd S M p) 0 60 0)) (.int (nI 4)) (by omega)
      refine ⟨aP', ?_⟩
      rw [if_pos q, start, st 0 (by omega), if_pos (q' 0 (by omega)), st 1 (by omega), if_pos (q' 1 (by omega)), st 2 (by omega), if_pos (q' 2 (by omega)), st 3 (by omega), if_pos (q' 3 (by omega)), sX7_badAt_61]
      simp only [sX7_badAt_0, sX7_badAt_1, sX7_badAt_2, sX7_badAt_5, sX7_badAt_6, sX7_badAt_8, sX7_badAt_9, sX7_badAt_12, sX7_badAt_15, sX7_badAt_16, sX7_badAt_17, sX7_badAt_20, sX7_badAt_21, sX7_badAt_22, sX7_badAt_23, sX7_badAt_25, sX7_badAt_27, sX7_badAt_30, sX7_badAt_31, sX7_badAt_32, sX7_badAt_35, sX7_badAt_36, sX7_badAt_37, sX7_badAt_38, sX7_badAt_41, sX7_badAt_43, sX7_badAt_44, sX7_badAt_45, sX7_badAt_46, sX7_badAt_47, sX7_badAt_48, sX7_badAt_49, sX7_badAt_52, sX7_badAt_53, sX7_badAt_56, sX7_badAt_59, sX7_badAt_60, sX7_badAt_62, sX7_badAt_63, sX7_badAt_66, sX7_badAt_67, sX7_badAt_69, sX7_badAt_71, sX7_badAt_72, sX7_badAt_73, sX7_badAt_74, sX7_badAt_75, sX7_badAt_78, sX7_badAt_79, sX7_badAt_80, sX7_badAt_83, sX7_badAt_85, sX7_badAt_86, sX7_badAt_87, sX7_badAt_88, sX7_badAt_89, sX7_badAt_92, sX7_badAt_94, sX7_badAt_95, sX7_badAt_96, sX7_badAt_98, sX7_badAt_99, sX7_badAt_100, sX7_badAt_101, sX7_badAt_102, sX7_badAt_103, sX7_badAt_106, sX7_badAt_107, sX7_badAt_108, sX7_badAt_111, sX7_badAt_114, sX7_badAt_117, sX7_badAt_120, sX7_badAt_121, show (4 : Int32) ≤ nI (3 + 1) by decide, if_true, bd_v, bi_v, Option.toList, List.cons_append, List.nil_append, List.length_cons, List.length_nil, Nat.reduceAdd, Nat.reduceLeDiff, ck_in, nI_add, nI_1, if_false, if_true]
      exact y
    · refine ⟨aP1, ?_⟩
      rw [if_neg q, start]
      have nq : ¬ ∀ k, k < 4 → mskd S M p (60 + k) = byt (sm mix (mskd S M p) 0 60 0) k := fun y => q (hnum.mpr y)
      by_cases c0 : mskd S M p (60 + 0) = byt (sm mix (mskd S M p) 0 60 0) 0
      · by_cases c1 : mskd S M p (60 + 1) = byt (sm mix (mskd S M p) 0 60 0) 1
        · by_cases c2 : mskd S M p (60 + 2) = byt (sm mix (mskd S M p) 0 60 0) 2
          · by_cases c3 : mskd S M p (60 + 3) = byt (sm mix (mskd S M p) 0 60 0) 3
            · refine absurd (fun k hk => ?_) nq
              match k, hk with
              | 0, _ => exact c0
              | 1, _ => exact c1
              | 2, _ => exact c2
              | 3, _ => exact c3
            · rw [st 0 (by omega), if_pos c0, st 1 (by omega), if_pos c1, st 2 (by omega), if_pos c2, st 3 (by omega), if_neg c3]
          · rw [st 0 (by omega), if_pos c0, st 1 (by omega), if_pos c1, st 2 (by omega), if_neg c2]
        · rw [st 0 (by omega), if_pos c0, st 1 (by omega), if_neg c1]
      · rw [st 0 (by omega), if_neg c0]
theorem cnt_l (hn : n ≤ 40) {u : Nat} (hu : u ≤ n) (hX : ∀ q, q < n → aX q = if q < u then 1 else 0) (w1 : Value) : ∀ (r k : Nat), k + r = n → rn 120 9 [.ref m, w1, .int (nI (if k < u then k else u)), .int (nI k)] [] ((hp h0 m c n jl fd aN aS aB aU aH aD aX aM aW aI aT aA aK aL aF aP), z) = rn 120 40 [.ref m, w1, .int (nI u), .int (nI n)] [] ((hp h0 m c n jl fd aN aS aB aU aH aD aX aM aW aI aT aA aK aL aF aP), z) := by
  intro r
  induction r with
  | zero =>
    intro k hk
    have h1 : nI n ≤ nI k := by rw [nI_leI (by omega) (by omega)]; omega
    rw [sX7_count_9]
    simp only [sX7_count_0, sX7_count_1, sX7_count_2, sX7_count_5, sX7_count_6, sX7_count_7, sX7_count_8, sX7_count_10, sX7_count_11, sX7_count_14, sX7_count_17, sX7_count_18, sX7_count_19, sX7_count_22, sX7_count_23, sX7_count_24, sX7_count_27, sX7_count_28, sX7_count_31, sX7_count_32, sX7_count_33, sX7_count_34, sX7_count_37, sX7_count_41_0, sX7_count_41_1, sX7_count_41_2, sX7_count_41_3, sX7_count_41_4, sX7_count_41_5, sX7_count_80, sX7_count_81, sX7_count_84, sX7_count_85, sX7_count_86, sX7_count_87, sX7_count_88, sX7_count_89, sX7_count_90, sX7_count_93, sX7_count_96, sX7_count_97, sX7_count_98, sX7_count_101, sX7_count_104, sX7_count_105, sX7_count_108, sX7_count_109, sX7_count_110, sX7_count_111, sX7_count_112, sX7_count_115, sX7_count_116, sX7_count_117, sX7_count_118, sX7_count_119, sX7_count_122, sX7_count_123, sX7_count_124, sX7_count_127, sX7_count_128, sX7_count_129, hp_o, hp_1, hp_2, hp_3, hp_4, hp_5, hp_6, hp_7, hp_8, hp_9, hp_10, hp_11, hp_12, hp_13, hp_14, hp_15, hp_16, wp_o, wp_j, wp_f, wp_1, wp_2, wp_3, wp_4, wp_5, wp_6, wp_7, wp_8, wp_9, wp_10, wp_11, wp_12, wp_13, wp_14, wp_15, wp_16, gf_0, pf_0, gf_1, pf_1, gf_2, pf_2, gf_3, pf_3, gf_4, pf_4, gf_5, pf_5, gf_6, pf_6, gf_7, pf_7, gf_8, pf_8, gf_9, pf_9, gf_10, pf_10, gf_11, pf_11, gf_12, pf_12, gf_13, pf_13, gf_14, pf_14, gf_15, pf_15, gf_16, pf_16, gf_17, pf_17, gf_18, pf_18, gf_19, pf_19, List.set_cons_zero, List.set_cons_succ, al_0, as_0, cl0, m8, m10, m12, m32, m40, m64, m400, m4800, h1, if_true]
    rw [if_neg (by omega), show k = n by omega]
  | succ r ih =>
    intro k hk
    have h1 : ¬ nI n ≤ nI k := by rw [nI_leI (by omega) (by omega)]; omega
    have i1 : k < 120 := by omega
    have hx := hX k (by omega)
    have hq := ih (k + 1) (by omega)
    rw [sX7_count_9]
    by_cases q : k < u
    · rw [if_pos q] at hx ⊢
      have e : (if k + 1 < u then k + 1 else u) = k + 1 := by
        by_cases q2 : k + 1 < u
        · rw [if_pos q2]
        · rw [if_neg q2]; omega
      rw [e] at hq
      simp only [sX7_count_0, sX7_count_1, sX7_count_2, sX7_count_5, sX7_count_6, sX7_count_7, sX7_count_8, sX7_count_10, sX7_count_11, sX7_count_14, sX7_count_17, sX7_count_18, sX7_count_19, sX7_count_22, sX7_count_23, sX7_count_24, sX7_count_27, sX7_count_28, sX7_count_31, sX7_count_32, sX7_count_33, sX7_count_34, sX7_count_37, sX7_count_41_0, sX7_count_41_1, sX7_count_41_2, sX7_count_41_3, sX7_count_41_4, sX7_count_41_5, sX7_count_80, sX7_count_81, sX7_count_84, sX7_count_85, sX7_count_86, sX7_count_87, sX7_count_88, sX7_count_89, sX7_count_90, sX7_count_93, sX7_count_96, sX7_count_97, sX7_count_98, sX7_count_101, sX7_count_104, sX7_count_105, sX7_count_108, sX7_count_109, sX7_count_110, sX7_count_111, sX7_count_112, sX7_count_115, sX7_count_116, sX7_count_117, sX7_count_118, sX7_count_119, sX7_count_122, sX7_count_123, sX7_count_124, sX7_count_127, sX7_count_128, sX7_count_129, hp_o, hp_1, hp_2, hp_3, hp_4, hp_5, hp_6, hp_7, hp_8, hp_9, hp_10, hp_11, hp_12, hp_13, hp_14, hp_15, hp_16, wp_o, wp_j, wp_f, wp_1, wp_2, wp_3, wp_4, wp_5, wp_6, wp_7, wp_8, wp_9, wp_10, wp_11, wp_12, wp_13, wp_14, wp_15, wp_16, gf_0, pf_0, gf_1, pf_1, gf_2, pf_2, gf_3, pf_3, gf_4, pf_4, gf_5, pf_5, gf_6, pf_6, gf_7, pf_7, gf_8, pf_8, gf_9, pf_9, gf_10, pf_10, gf_11, pf_11, gf_12, pf_12, gf_13, pf_13, gf_14, pf_14, gf_15, pf_15, gf_16, pf_16, gf_17, pf_17, gf_18, pf_18, gf_19, pf_19, List.set_cons_zero, List.set_cons_succ, al_0, as_0, cl0, m8, m10, m12, m32, m40, m64, m400, m4800, bd_v, bi_v, Option.toList, List.cons_append, List.nil_append, List.length_cons, List.length_nil, Nat.reduceAdd, Nat.reduceLeDiff, ck_in, nI_add, nI_1, if_false, if_true, h1, al1_in i1 (show 120 ≤ 100000 by omega), hx, show ¬ ((1 : Int32) = 0) by decide]
      exact hq
    · rw [if_neg q] at hx ⊢
      rw [if_neg (by omega)] at hq
      simp only [sX7_count_0, sX7_count_1, sX7_count_2, sX7_count_5, sX7_count_6, sX7_count_7, sX7_count_8, sX7_count_10, sX7_count_11, sX7_count_14, sX7_count_17, sX7_count_18, sX7_count_19, sX7_count_22, sX7_count_23, sX7_count_24, sX7_count_27, sX7_count_28, sX7_count_31, sX7_count_32, sX7_count_33, sX7_count_34, sX7_count_37, sX7_count_41_0, sX7_count_41_1, sX7_count_41_2, sX7_count_41_3, sX7_count_41_4, sX7_count_41_5, sX7_count_80, sX7_count_81, sX7_count_84, sX7_count_85, sX7_count_86, sX7_count_87, sX7_count_88, sX7_count_89, sX7_count_90, sX7_count_93, sX7_count_96, sX7_count_97, sX7_count_98, sX7_count_101, sX7_count_104, sX7_count_105, sX7_count_108, sX7_count_109, sX7_count_110, sX7_count_111, sX7_count_112, sX7_count_115, sX7_count_116, sX7_count_117, sX7_count_118, sX7_count_119, sX7_count_122, sX7_count_123, sX7_count_124, sX7_count_127, sX7_count_128, sX7_count_129, hp_o, hp_1, hp_2, hp_3, hp_4, hp_5, hp_6, hp_7, hp_8, hp_9, hp_10, hp_11, hp_12, hp_13, hp_14, hp_15, hp_16, wp_o, wp_j, wp_f, wp_1, wp_2, wp_3, wp_4, wp_5, wp_6, wp_7, wp_8, wp_9, wp_10, wp_11, wp_12, wp_13, wp_14, wp_15, wp_16, gf_0, pf_0, gf_1, pf_1, gf_2, pf_2, gf_3, pf_3, gf_4, pf_4, gf_5, pf_5, gf_6, pf_6, gf_7, pf_7, gf_8, pf_8, gf_9, pf_9, gf_10, pf_10, gf_11, pf_11, gf_12, pf_12, gf_13, pf_13, gf_14, pf_14, gf_15, pf_15, gf_16, pf_16, gf_17, pf_17, gf_18, pf_18, gf_19, pf_19, List.set_cons_zero, List.set_cons_succ, al_0, as_0, cl0, m8, m10, m12, m32, m40, m64, m400, m4800, bd_v, bi_v, Option.toList, List.cons_append, List.nil_append, List.length_cons, List.length_nil, Nat.reduceAdd, Nat.reduceLeDiff, ck_in, nI_add, nI_1, if_false, if_true, h1, al1_in i1 (show 120 ≤ 100000 by omega), hx, Int32.add_zero]
      exact hq
end
section
variable {h0 h : Nat → Option va_E} {z : Nat × Nat × Nat} {m n : Nat} {c : Int32} {S Sv : Sh} {M J : Nat → Int32} {jl : Nat} {nm : List Int32}
theorem M_badAt (d : MR h0 m n (S, Sv, M, J, jl, nm) h c) (i : SI n (S, Sv, M, J, jl, nm)) : OR (cl 116 [.ref m] (h, z)) z h0 m n k1 (opBad n (S, Sv, M, J, jl, nm)) := by
  have w : WF n S := i.1
  obtain ⟨aN, aS, aB, aU, aH, aD, aX, aM, aW, aI, aT, aA, aK, aL, aF, aP, rfl, e1, e2, e3, e4, e5⟩ := d
  have e2 : Rl 0 n S aN aS aB aU aH aD aX aM aW aI aT aA := e2
  obtain ⟨N, T, V, W, hN, r0⟩ := Rl0_el e2
  obtain ⟨aP', y⟩ := bad_o (h0 := h0) (z := z) (m := m) (jl := jl) (fd := nm.length) (c := 0) (aN := aN) (aI := aI) (aA := aA) (aL := aL) (aF := aF) w r0 e4 i.2.2.2.2.1 n 0 aP am_jk am_jk (by omega)
  refine or_v ?_ ⟨aN, aS, aB, aU, aH, aD, aX, aM, aW, aI, aT, aA, aK, aL, aF, aP', rfl, e1, e2, e3, e4, e5⟩
  rw [eX7_badAt]
  simp only [sX7_badAt_0, sX7_badAt_1, sX7_badAt_2, sX7_badAt_5, sX7_badAt_6, hp_o, hp_1, hp_2, hp_3, hp_4, hp_5, hp_6, hp_7, hp_8, hp_9, hp_10, hp_11, hp_12, hp_13, hp_14, hp_15, hp_16, wp_o, wp_j, wp_f, wp_1, wp_2, wp_3, wp_4, wp_5, wp_6, wp_7, wp_8, wp_9, wp_10, wp_11, wp_12, wp_13, wp_14, wp_15, wp_16, gf_0, pf_0, gf_1, pf_1, gf_2, pf_2, gf_3, pf_3, gf_4, pf_4, gf_5, pf_5, gf_6, pf_6, gf_7, pf_7, gf_8, pf_8, gf_9, pf_9, gf_10, pf_10, gf_11, pf_11, gf_12, pf_12, gf_13, pf_13, gf_14, pf_14, gf_15, pf_15, gf_16, pf_16, gf_17, pf_17, gf_18, pf_18, gf_19, pf_19, List.set_cons_zero, List.set_cons_succ, al_0, as_0, cl0, m8, m10, m12, m32, m40, m64, m400, m4800]
  exact y
theorem M_count (d : MR h0 m n (S, Sv, M, J, jl, nm) h c) (i : SI n (S, Sv, M, J, jl, nm)) (x : Int32) : OR (cl 120 [.ref m, .int x] (h, z)) z h0 m n k1 (opCount n x (S, Sv, M, J, jl, nm)) := by
  have w : WF n S := i.1
  have hn : n ≤ 40 := w.2.2.2.1
  have hun : S.used ≤ n := w.2.1
  obtain ⟨aN, aS, aB, aU, aH, aD, aX, aM, aW, aI, aT, aA, aK, aL, aF, aP, rfl, e1, e2, e3, e4, e5⟩ := d
  have e2 : Rl 0 n S aN aS aB aU aH aD aX aM aW aI aT aA := e2
  have e4 : ∀ j, j < 2560 → aK j = M j := e4
  obtain ⟨N, T, V, W, hN, r0⟩ := Rl0_el e2
  have hq : nzc aK 2560 = 0 ↔ nzc M (64 * n) = 0 := nzK hn e4 i.2.2.2.2.2
  have hu1 : 1 ≤ S.used := w.2.2.1
  have l := cnt_l (h0 := h0) (z := z) (m := m) (n := n) (jl := jl) (fd := nm.length) (c := 0) (aN := aN) (aS := aS) (aB := aB) (aU := aU) (aH := aH) (aD := aD) (aX := aX) (aM := aM) (aW := aW) (aI := aI) (aT := aT) (aA := aA) (aK := aK) (aL := aL) (aF := aF) (aP := aP) hn hun (fun q hq => (r0.2.2.1 q hq).2.1) (.int x) n 0 (by omega)
  rw [if_pos (by omega)] at l
  have fin : MR h0 m n (S, Sv, M, J, jl, nm) (hp h0 m 0 n jl nm.length aN aS aB aU aH aD aX aM aW aI aT aA aK aL aF aP) 0 := ⟨aN, aS, aB, aU, aH, aD, aX, aM, aW, aI, aT, aA, aK, aL, aF, aP, rfl, e1, e2, e3, e4, e5⟩
  have start : cl 120 [.ref m, .int x] (hp h0 m c n jl nm.length aN aS aB aU aH aD aX aM aW aI aT aA aK aL aF aP, z) = rn 120 41 [.ref m, .int x, .int (nI S.used), .int (nI n)] [.int x] (hp h0 m 0 n jl nm.length aN aS aB aU aH aD aX aM aW aI aT aA aK aL aF aP, z) := by
    rw [eX7_count]
    simp only [sX7_count_0, sX7_count_1, sX7_count_2, sX7_count_5, sX7_count_6, sX7_count_7, sX7_count_8, hp_o, hp_1, hp_2, hp_3, hp_4, hp_5, hp_6, hp_7, hp_8, hp_9, hp_10, hp_11, hp_12, hp_13, hp_14, hp_15, hp_16, wp_o, wp_j, wp_f, wp_1, wp_2, wp_3, wp_4, wp_5, wp_6, wp_7, wp_8, wp_9, wp_10, wp_11, wp_12, wp_13, wp_14, wp_15, wp_16, gf_0, pf_0, gf_1, pf_1, gf_2, pf_2, gf_3, pf_3, gf_4, pf_4, gf_5, pf_5, gf_6, pf_6, gf_7, pf_7, gf_8, pf_8, gf_9, pf_9, gf_10, pf_10, gf_11, pf_11, gf_12, pf_12, gf_13, pf_13, gf_14, pf_14, gf_15, pf_15, gf_16, pf_16, gf_17, pf_17, gf_18, pf_18, gf_19, pf_19, List.set_cons_zero, List.set_cons_succ, al_0, as_0, cl0, m8, m10, m12, m32, m40, m64, m400, m4800]
    refine l.trans ?_
    rw [sX7_count_40]
  have e6 := r0.2.2.2.2.2.2
  unfold opCount
  dsimp only
  by_cases x0 : x = 0
  · subst x0
    rw [if_pos rfl]
    refine or_v ?_ fin
    rw [start, sX7_count_41_0]
    simp only [sX7_count_0, sX7_count_1, sX7_count_2, sX7_count_5, sX7_count_6, sX7_count_7, sX7_count_8, sX7_count_10, sX7_count_11, sX7_count_14, sX7_count_17, sX7_count_18, sX7_count_19, sX7_count_22, sX7_count_23, sX7_count_24, sX7_count_27, sX7_count_28, sX7_count_31, sX7_count_32, sX7_count_33, sX7_count_34, sX7_count_37, sX7_count_41_0, sX7_count_41_1, sX7_count_41_2, sX7_count_41_3, sX7_count_41_4, sX7_count_41_5, sX7_count_80, sX7_count_81, sX7_count_84, sX7_count_85, sX7_count_86, sX7_count_87, sX7_count_88, sX7_count_89, sX7_count_90, sX7_count_93, sX7_count_96, sX7_count_97, sX7_count_98, sX7_count_101, sX7_count_104, sX7_count_105, sX7_count_108, sX7_count_109, sX7_count_110, sX7_count_111, sX7_count_112, sX7_count_115, sX7_count_116, sX7_count_117, sX7_count_118, sX7_count_119, sX7_count_122, sX7_count_123, sX7_count_124, sX7_count_127, sX7_count_128, sX7_count_129, hp_o, hp_1, hp_2, hp_3, hp_4, hp_5, hp_6, hp_7, hp_8, hp_9, hp_10, hp_11, hp_12, hp_13, hp_14, hp_15, hp_16, wp_o, wp_j, wp_f, wp_1, wp_2, wp_3, wp_4, wp_5, wp_6, wp_7, wp_8, wp_9, wp_10, wp_11, wp_12, wp_13, wp_14, wp_15, wp_16, gf_0, pf_0, gf_1, pf_1, gf_2, pf_2, gf_3, pf_3, gf_4, pf_4, gf_5, pf_5, gf_6, pf_6, gf_7, pf_7, gf_8, pf_8, gf_9, pf_9, gf_10, pf_10, gf_11, pf_11, gf_12, pf_12, gf_13, pf_13, gf_14, pf_14, gf_15, pf_15, gf_16, pf_16, gf_17, pf_17, gf_18, pf_18, gf_19, pf_19, List.set_cons_zero, List.set_cons_succ, al_0, as_0, cl0, m8, m10, m12, m32, m40, m64, m400, m4800, r0.1.1]
  · by_cases x1 : x = 1
    · subst x1
      rw [if_neg x0, if_pos rfl]
      refine or_v ?_ fin
      rw [start, sX7_count_41_1]
      simp only [sX7_count_0, sX7_count_1, sX7_count_2, sX7_count_5, sX7_count_6, sX7_count_7, sX7_count_8, sX7_count_10, sX7_count_11, sX7_count_14, sX7_count_17, sX7_count_18, sX7_count_19, sX7_count_22, sX7_count_23, sX7_count_24, sX7_count_27, sX7_count_28, sX7_count_31, sX7_count_32, sX7_count_33, sX7_count_34, sX7_count_37, sX7_count_41_0, sX7_count_41_1, sX7_count_41_2, sX7_count_41_3, sX7_count_41_4, sX7_count_41_5, sX7_count_80, sX7_count_81, sX7_count_84, sX7_count_85, sX7_count_86, sX7_count_87, sX7_count_88, sX7_count_89, sX7_count_90, sX7_count_93, sX7_count_96, sX7_count_97, sX7_count_98, sX7_count_101, sX7_count_104, sX7_count_105, sX7_count_108, sX7_count_109, sX7_count_110, sX7_count_111, sX7_count_112, sX7_count_115, sX7_count_116, sX7_count_117, sX7_count_118, sX7_count_119, sX7_count_122, sX7_count_123, sX7_count_124, sX7_count_127, sX7_count_128, sX7_count_129, hp_o, hp_1, hp_2, hp_3, hp_4, hp_5, hp_6, hp_7, hp_8, hp_9, hp_10, hp_11, hp_12, hp_13, hp_14, hp_15, hp_16, wp_o, wp_j, wp_f, wp_1, wp_2, wp_3, wp_4, wp_5, wp_6, wp_7, wp_8, wp_9, wp_10, wp_11, wp_12, wp_13, wp_14, wp_15, wp_16, gf_0, pf_0, gf_1, pf_1, gf_2, pf_2, gf_3, pf_3, gf_4, pf_4, gf_5, pf_5, gf_6, pf_6, gf_7, pf_7, gf_8, pf_8, gf_9, pf_9, gf_10, pf_10, gf_11, pf_11, gf_12, pf_12, gf_13, pf_13, gf_14, pf_14, gf_15, pf_15, gf_16, pf_16, gf_17, pf_17, gf_18, pf_18, gf_19, pf_19, List.set_cons_zero, List.set_cons_succ, al_0, as_0, cl0, m8, m10, m12, m32, m40, m64, m400, m4800]
    · by_cases x2 : x = 2
      · subst x2
        rw [if_neg x0, if_neg x1, if_pos rfl]
        by_cases q : nzc M (64 * n) = 0
        · rw [if_pos q]
          refine or_v ?_ fin
          rw [start, sX7_count_41_2]
          simp only [sX7_count_0, sX7_count_1, sX7_count_2, sX7_count_5, sX7_count_6, sX7_count_7, sX7_count_8, sX7_count_10, sX7_count_11, sX7_count_14, sX7_count_17, sX7_count_18, sX7_count_19, sX7_count_22, sX7_count_23, sX7_count_24, sX7_count_27, sX7_count_28, sX7_count_31, sX7_count_32, sX7_count_33, sX7_count_34, sX7_count_37, sX7_count_41_0, sX7_count_41_1, sX7_count_41_2, sX7_count_41_3, sX7_count_41_4, sX7_count_41_5, sX7_count_80, sX7_count_81, sX7_count_84, sX7_count_85, sX7_count_86, sX7_count_87, sX7_count_88, sX7_count_89, sX7_count_90, sX7_count_93, sX7_count_96, sX7_count_97, sX7_count_98, sX7_count_101, sX7_count_104, sX7_count_105, sX7_count_108, sX7_count_109, sX7_count_110, sX7_count_111, sX7_count_112, sX7_count_115, sX7_count_116, sX7_count_117, sX7_count_118, sX7_count_119, sX7_count_122, sX7_count_123, sX7_count_124, sX7_count_127, sX7_count_128, sX7_count_129, hp_o, hp_1, hp_2, hp_3, hp_4, hp_5, hp_6, hp_7, hp_8, hp_9, hp_10, hp_11, hp_12, hp_13, hp_14, hp_15, hp_16, wp_o, wp_j, wp_f, wp_1, wp_2, wp_3, wp_4, wp_5, wp_6, wp_7, wp_8, wp_9, wp_10, wp_11, wp_12, wp_13, wp_14, wp_15, wp_16, gf_0, pf_0, gf_1, pf_1, gf_2, pf_2, gf_3, pf_3, gf_4, pf_4, gf_5, pf_5, gf_6, pf_6, gf_7, pf_7, gf_8, pf_8, gf_9, pf_9, gf_10, pf_10, gf_11, pf_11, gf_12, pf_12, gf_13, pf_13, gf_14, pf_14, gf_15, pf_15, gf_16, pf_16, gf_17, pf_17, gf_18, pf_18, gf_19, pf_19, List.set_cons_zero, List.set_cons_succ, al_0, as_0, cl0, m8, m10, m12, m32, m40, m64, m400, m4800, bd_v, bi_v, Option.toList, List.cons_append, List.nil_append, List.length_cons, List.length_nil, Nat.reduceAdd, Nat.reduceLeDiff, ck_in, nI_add, nI_1, if_false, if_true, X_isAltered, hq.mpr q, hN, e6]
        · rw [if_neg q]
          refine or_x (r := 0) (h' := hp h0 m 1 n jl nm.length aN aS aB aU aH aD aX aM aW aI aT aA aK aL aF aP) ?_ ⟨aN, aS, aB, aU, aH, aD, aX, aM, aW, aI, aT, aA, aK, aL, aF, aP, rfl, e1, e2, e3, e4, e5⟩
          rw [start, sX7_count_41_2]
          simp only [sX7_count_0, sX7_count_1, sX7_count_2, sX7_count_5, sX7_count_6, sX7_count_7, sX7_count_8, sX7_count_10, sX7_count_11, sX7_count_14, sX7_count_17, sX7_count_18, sX7_count_19, sX7_count_22, sX7_count_23, sX7_count_24, sX7_count_27, sX7_count_28, sX7_count_31, sX7_count_32, sX7_count_33, sX7_count_34, sX7_count_37, sX7_count_41_0, sX7_count_41_1, sX7_count_41_2, sX7_count_41_3, sX7_count_41_4, sX7_count_41_5, sX7_count_80, sX7_count_81, sX7_count_84, sX7_count_85, sX7_count_86, sX7_count_87, sX7_count_88, sX7_count_89, sX7_count_90, sX7_count_93, sX7_count_96, sX7_count_97, sX7_count_98, sX7_count_101, sX7_count_104, sX7_count_105, sX7_count_108, sX7_count_109, sX7_count_110, sX7_count_111, sX7_count_112, sX7_count_115, sX7_count_116, sX7_count_117, sX7_count_118, sX7_count_119, sX7_count_122, sX7_count_123, sX7_count_124, sX7_count_127, sX7_count_128, sX7_count_129, hp_o, hp_1, hp_2, hp_3, hp_4, hp_5, hp_6, hp_7, hp_8, hp_9, hp_10, hp_11, hp_12, hp_13, hp_14, hp_15, hp_16, wp_o, wp_j, wp_f, wp_1, wp_2, wp_3, wp_4, wp_5, wp_6, wp_7, wp_8, wp_9, wp_10, wp_11, wp_12, wp_13, wp_14, wp_15, wp_16, gf_0, pf_0, gf_1, pf_1, gf_2, pf_2, gf_3, pf_3, gf_4, pf_4, gf_5, pf_5, gf_6, pf_6, gf_7, pf_7, gf_8, pf_8, gf_9, pf_9, gf_10, pf_10, gf_11, pf_11, gf_12, pf_12, gf_13, pf_13, gf_14, pf_14, gf_15, pf_15, gf_16, pf_16, gf_17, pf_17, gf_18, pf_18, gf_19, pf_19, List.set_cons_zero, List.set_cons_succ, al_0, as_0, cl0, m8, m10, m12, m32, m40, m64, m400, m4800, bd_v, bi_v, Option.toList, List.cons_append, List.nil_append, List.length_cons, List.length_nil, Nat.reduceAdd, Nat.reduceLeDiff, ck_in, nI_add, nI_1, if_false, if_true, X_isAltered, mt hq.mp q, show ¬ ((1 : Int32) = 0) by decide, X_raise]
      · by_cases x3 : x = 3
        · subst x3
          rw [if_neg x0, if_neg x1, if_neg x2, if_pos rfl]
          refine or_v ?_ fin
          rw [start, sX7_count_41_3]
          simp only [sX7_count_0, sX7_count_1, sX7_count_2, sX7_count_5, sX7_count_6, sX7_count_7, sX7_count_8, sX7_count_10, sX7_count_11, sX7_count_14, sX7_count_17, sX7_count_18, sX7_count_19, sX7_count_22, sX7_count_23, sX7_count_24, sX7_count_27, sX7_count_28, sX7_count_31, sX7_count_32, sX7_count_33, sX7_count_34, sX7_count_37, sX7_count_41_0, sX7_count_41_1, sX7_count_41_2, sX7_count_41_3, sX7_count_41_4, sX7_count_41_5, sX7_count_80, sX7_count_81, sX7_count_84, sX7_count_85, sX7_count_86, sX7_count_87, sX7_count_88, sX7_count_89, sX7_count_90, sX7_count_93, sX7_count_96, sX7_count_97, sX7_count_98, sX7_count_101, sX7_count_104, sX7_count_105, sX7_count_108, sX7_count_109, sX7_count_110, sX7_count_111, sX7_count_112, sX7_count_115, sX7_count_116, sX7_count_117, sX7_count_118, sX7_count_119, sX7_count_122, sX7_count_123, sX7_count_124, sX7_count_127, sX7_count_128, sX7_count_129, hp_o, hp_1, hp_2, hp_3, hp_4, hp_5, hp_6, hp_7, hp_8, hp_9, hp_10, hp_11, hp_12, hp_13, hp_14, hp_15, hp_16, wp_o, wp_j, wp_f, wp_1, wp_2, wp_3, wp_4, wp_5, wp_6, wp_7, wp_8, wp_9, wp_10, wp_11, wp_12, wp_13, wp_14, wp_15, wp_16, gf_0, pf_0, gf_1, pf_1, gf_2, pf_2, gf_3, pf_3, gf_4, pf_4, gf_5, pf_5, gf_6, pf_6, gf_7, pf_7, gf_8, pf_8, gf_9, pf_9, gf_10, pf_10, gf_11, pf_11, gf_12, pf_12, gf_13, pf_13, gf_14, pf_14, gf_15, pf_15, gf_16, pf_16, gf_17, pf_17, gf_18, pf_18, gf_19, pf_19, List.set_cons_zero, List.set_cons_succ, al_0, as_0, cl0, m8, m10, m12, m32, m40, m64, m400, m4800, r0.1.2]
        · by_cases x4 : x = 4
          · subst x4
            rw [if_neg x0, if_neg x1, if_neg x2, if_neg x3, if_pos rfl]
            refine or_v ?_ fin
            rw [start, sX7_count_41_4]
            simp only [sX7_count_0, sX7_count_1, sX7_count_2, sX7_count_5, sX7_count_6, sX7_count_7, sX7_count_8, sX7_count_10, sX7_count_11, sX7_count_14, sX7_count_17, sX7_count_18, sX7_count_19, sX7_count_22, sX7_count_23, sX7_count_24, sX7_count_27, sX7_count_28, sX7_count_31, sX7_count_32, sX7_count_33, sX7_count_34, sX7_count_37, sX7_count_41_0, sX7_count_41_1, sX7_count_41_2, sX7_count_41_3, sX7_count_41_4, sX7_count_41_5, sX7_count_80, sX7_count_81, sX7_count_84, sX7_count_85, sX7_count_86, sX7_count_87, sX7_count_88, sX7_count_89, sX7_count_90, sX7_count_93, sX7_count_96, sX7_count_97, sX7_count_98, sX7_count_101, sX7_count_104, sX7_count_105, sX7_count_108, sX7_count_109, sX7_count_110, sX7_count_111, sX7_count_112, sX7_count_115, sX7_count_116, sX7_count_117, sX7_count_118, sX7_count_119, sX7_count_122, sX7_count_123, sX7_count_124, sX7_count_127, sX7_count_128, sX7_count_129, hp_o, hp_1, hp_2, hp_3, hp_4, hp_5, hp_6, hp_7, hp_8, hp_9, hp_10, hp_11, hp_12, hp_13, hp_14, hp_15, hp_16, wp_o, wp_j, wp_f, wp_1, wp_2, wp_3, wp_4, wp_5, wp_6, wp_7, wp_8, wp_9, wp_10, wp_11, wp_12, wp_13, wp_14, wp_15, wp_16, gf_0, pf_0, gf_1, pf_1, gf_2, pf_2, gf_3, pf_3, gf_4, pf_4, gf_5, pf_5, gf_6, pf_6, gf_7, pf_7, gf_8, pf_8, gf_9, pf_9, gf_10, pf_10, gf_11, pf_11, gf_12, pf_12, gf_13, pf_13, gf_14, pf_14, gf_15, pf_15, gf_16, pf_16, gf_17, pf_17, gf_18, pf_18, gf_19, pf_19, List.set_cons_zero, List.set_cons_succ, al_0, as_0, cl0, m8, m10, m12, m32, m40, m64, m400, m4800]
          · by_cases x5 : x = 5
            · subst x5
              rw [if_neg x0, if_neg x1, if_neg x2, if_neg x3, if_neg x4, if_pos rfl]
              refine or_v ?_ fin
              rw [start, sX7_count_41_5]
              simp only [sX7_count_0, sX7_count_1, sX7_count_2, sX7_count_5, sX7_count_6, sX7_count_7, sX7_count_8, sX7_count_10, sX7_count_11, sX7_count_14, sX7_count_17, sX7_count_18, sX7_count_19, sX7_count_22, sX7_count_23, sX7_count_24, sX7_count_27, sX7_count_28, sX7_count_31, sX7_count_32, sX7_count_33, sX7_count_34, sX7_count_37, sX7_count_41_0, sX7_count_41_1, sX7_count_41_2, sX7_count_41_3, sX7_count_41_4, sX7_count_41_5, sX7_count_80, sX7_count_81, sX7_count_84, sX7_count_85, sX7_count_86, sX7_count_87, sX7_count_88, sX7_count_89, sX7_count_90, sX7_count_93, sX7_count_96, sX7_count_97, sX7_count_98, sX7_count_101, sX7_count_104, sX7_count_105, sX7_count_108, sX7_count_109, sX7_count_110, sX7_count_111, sX7_count_112, sX7_count_115, sX7_count_116, sX7_count_117, sX7_count_118, sX7_count_119, sX7_count_122, sX7_count_123, sX7_count_124, sX7_count_127, sX7_count_128, sX7_count_129, hp_o, hp_1, hp_2, hp_3, hp_4, hp_5, hp_6, hp_7, hp_8, hp_9, hp_10, hp_11, hp_12, hp_13, hp_14, hp_15, hp_16, wp_o, wp_j, wp_f, wp_1, wp_2, wp_3, wp_4, wp_5, wp_6, wp_7, wp_8, wp_9, wp_10, wp_11, wp_12, wp_13, wp_14, wp_15, wp_16, gf_0, pf_0, gf_1, pf_1, gf_2, pf_2, gf_3, pf_3, gf_4, pf_4, gf_5, pf_5, gf_6, pf_6, gf_7, pf_7, gf_8, pf_8, gf_9, pf_9, gf_10, pf_10, gf_11, pf_11, gf_12, pf_12, gf_13, pf_13, gf_14, pf_14, gf_15, pf_15, gf_16, pf_16, gf_17, pf_17, gf_18, pf_18, gf_19, pf_19, List.set_cons_zero, List.set_cons_succ, al_0, as_0, cl0, m8, m10, m12, m32, m40, m64, m400, m4800]
            · rw [if_neg x0, if_neg x1, if_neg x2, if_neg x3, if_neg x4, if_neg x5]
              refine or_v ?_ fin
              rw [start, sX7_count_41_d _ _ _ _ (sw_d x0 x1 x2 x3 x4 x5)]
              simp only [sX7_count_0, sX7_count_1, sX7_count_2, sX7_count_5, sX7_count_6, sX7_count_7, sX7_count_8, sX7_count_10, sX7_count_11, sX7_count_14, sX7_count_17, sX7_count_18, sX7_count_19, sX7_count_22, sX7_count_23, sX7_count_24, sX7_count_27, sX7_count_28, sX7_count_31, sX7_count_32, sX7_count_33, sX7_count_34, sX7_count_37, sX7_count_41_0, sX7_count_41_1, sX7_count_41_2, sX7_count_41_3, sX7_count_41_4, sX7_count_41_5, sX7_count_80, sX7_count_81, sX7_count_84, sX7_count_85, sX7_count_86, sX7_count_87, sX7_count_88, sX7_count_89, sX7_count_90, sX7_count_93, sX7_count_96, sX7_count_97, sX7_count_98, sX7_count_101, sX7_count_104, sX7_count_105, sX7_count_108, sX7_count_109, sX7_count_110, sX7_count_111, sX7_count_112, sX7_count_115, sX7_count_116, sX7_count_117, sX7_count_118, sX7_count_119, sX7_count_122, sX7_count_123, sX7_count_124, sX7_count_127, sX7_count_128, sX7_count_129, hp_o, hp_1, hp_2, hp_3, hp_4, hp_5, hp_6, hp_7, hp_8, hp_9, hp_10, hp_11, hp_12, hp_13, hp_14, hp_15, hp_16, wp_o, wp_j, wp_f, wp_1, wp_2, wp_3, wp_4, wp_5, wp_6, wp_7, wp_8, wp_9, wp_10, wp_11, wp_12, wp_13, wp_14, wp_15, wp_16, gf_0, pf_0, gf_1, pf_1, gf_2, pf_2, gf_3, pf_3, gf_4, pf_4, gf_5, pf_5, gf_6, pf_6, gf_7, pf_7, gf_8, pf_8, gf_9, pf_9, gf_10, pf_10, gf_11, pf_11, gf_12, pf_12, gf_13, pf_13, gf_14, pf_14, gf_15, pf_15, gf_16, pf_16, gf_17, pf_17, gf_18, pf_18, gf_19, pf_19, List.set_cons_zero, List.set_cons_succ, al_0, as_0, cl0, m8, m10, m12, m32, m40, m64, m400, m4800]
end
