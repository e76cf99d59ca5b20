/-! the reference: small calls -/
section
variable {h0 : Nat → Option va_E} {z : Nat × Nat × Nat} {m n jl fd : Nat} {c : Int32} {aN aS aB aU aH aD aX aM aW aI aT aA aK aL aF aP : Nat → Int32}
theorem X_more (s x : Int32) (σ : am_S) : cl 105 [.int s, .int x] σ = some (.inl (some (.int (mix s x))), σ) := by
  rw [eX7_more]
  simp only [sX7_more_0, sX7_more_1, sX7_more_2, sX7_more_3, sX7_more_4, sX7_more_5, sX7_more_7, sX7_more_8, sX7_more_9, sX7_more_11, sX7_more_12, sX7_more_13, sX7_more_15, sX7_more_16]
  rfl
theorem X_in (v lo hi : Int32) (σ : am_S) : cl 98 [.int v, .int lo, .int hi] σ = some (.inl (some (.int (if lo ≤ v ∧ v ≤ hi then 1 else 0))), σ) := by
  rw [eX7_in]
  have e1 : (v < lo) ↔ ¬ lo ≤ v := Int32.not_le.symm
  have e2 : (hi < v) ↔ ¬ v ≤ hi := Int32.not_le.symm
  by_cases q1 : lo ≤ v
  · by_cases q2 : v ≤ hi
    · rw [if_pos ⟨q1, q2⟩]
      simp only [sX7_in_0, sX7_in_1, sX7_in_2, sX7_in_5, sX7_in_6, sX7_in_7, sX7_in_10, sX7_in_11, sX7_in_14, sX7_in_15, sX7_in_15t, e1, e2, q1, q2, not_true_eq_false, if_false]
    · rw [if_neg (fun q => q2 q.2)]
      simp only [sX7_in_0, sX7_in_1, sX7_in_2, sX7_in_5, sX7_in_6, sX7_in_7, sX7_in_10, sX7_in_11, sX7_in_14, sX7_in_15, sX7_in_15t, e1, e2, q1, q2, not_true_eq_false, not_false_eq_true, if_false, if_true]
  · rw [if_neg (fun q => q1 q.1)]
    simp only [sX7_in_0, sX7_in_1, sX7_in_2, sX7_in_5, sX7_in_6, sX7_in_7, sX7_in_10, sX7_in_11, sX7_in_14, sX7_in_15, sX7_in_15t, e1, q1, not_false_eq_true, if_true]
theorem X_thrown : cl 96 [.ref m] ((hp h0 m c n jl fd aN aS aB aU aH aD aX aM aW aI aT aA aK aL aF aP), z) = some (.inl (some (.int c)), ((hp h0 m c n jl fd aN aS aB aU aH aD aX aM aW aI aT aA aK aL aF aP), z)) := by
  rw [eX7_thrown]
  simp only [sX7_thrown_0, sX7_thrown_1, sX7_thrown_4, hp_o, hp_1, hp_2, hp_3, hp_4, hp_5, hp_6, hp_7, hp_8, hp_9, hp_10, hp_11, hp_12, hp_13, hp_14, hp_15, hp_16, wp_o, wp_j, wp_f, wp_1, wp_2, wp_3, wp_4, wp_5, wp_6, wp_7, wp_8, wp_9, wp_10, wp_11, wp_12, wp_13, wp_14, wp_15, wp_16, gf_0, pf_0, gf_1, pf_1, gf_2, pf_2, gf_3, pf_3, gf_4, pf_4, gf_5, pf_5, gf_6, pf_6, gf_7, pf_7, gf_8, pf_8, gf_9, pf_9, gf_10, pf_10, gf_11, pf_11, gf_12, pf_12, gf_13, pf_13, gf_14, pf_14, gf_15, pf_15, gf_16, pf_16, gf_17, pf_17, gf_18, pf_18, gf_19, pf_19, List.set_cons_zero, List.set_cons_succ, al_0, as_0, cl0, m8, m10, m12, m32, m40, m64, m400, m4800]
theorem X_raise (k : Int32) : cl 121 [.ref m, .int k] ((hp h0 m c n jl fd aN aS aB aU aH aD aX aM aW aI aT aA aK aL aF aP), z) = some (.inl (some (.int 0)), ((hp h0 m (k) n jl fd aN aS aB aU aH aD aX aM aW aI aT aA aK aL aF aP), z)) := by
  rw [eX7_raise]
  simp only [sX7_raise_0, sX7_raise_1, sX7_raise_2, sX7_raise_5, sX7_raise_6, hp_o, hp_1, hp_2, hp_3, hp_4, hp_5, hp_6, hp_7, hp_8, hp_9, hp_10, hp_11, hp_12, hp_13, hp_14, hp_15, hp_16, wp_o, wp_j, wp_f, wp_1, wp_2, wp_3, wp_4, wp_5, wp_6, wp_7, wp_8, wp_9, wp_10, wp_11, wp_12, wp_13, wp_14, wp_15, wp_16, gf_0, pf_0, gf_1, pf_1, gf_2, pf_2, gf_3, pf_3, gf_4, pf_4, gf_5, pf_5, gf_6, pf_6, gf_7, pf_7, gf_8, pf_8, gf_9, pf_9, gf_10, pf_10, gf_11, pf_11, gf_12, pf_12, gf_13, pf_13, gf_14, pf_14, gf_15, pf_15, gf_16, pf_16, gf_17, pf_17, gf_18, pf_18, gf_19, pf_19, List.set_cons_zero, List.set_cons_succ, al_0, as_0, cl0, m8, m10, m12, m32, m40, m64, m400, m4800]
/-- hash of what is fed -/
theorem hashOf_l (hf : fd ≤ 12) : ∀ (k p : Nat) (s : Int32), p + k = fd → rn 104 4 [.ref m, .int s, .int (nI p)] [] ((hp h0 m c n jl fd aN aS aB aU aH aD aX aM aW aI aT aA aK aL aF aP), z) = some (.inl (some (.int (sm mix aF p k s))), ((hp h0 m c n jl fd aN aS aB aU aH aD aX aM aW aI aT aA aK aL aF aP), z)) := by
  intro k
  induction k with
  | zero =>
    intro p s hp
    have h1 : nI fd ≤ nI p := by rw [nI_leI (by omega) (by omega)]; omega
    rw [sX7_hashOf_4]
    simp only [sX7_hashOf_0, sX7_hashOf_1, sX7_hashOf_2, sX7_hashOf_3, sX7_hashOf_5, sX7_hashOf_6, sX7_hashOf_9, sX7_hashOf_12, sX7_hashOf_13, sX7_hashOf_14, sX7_hashOf_17, sX7_hashOf_18, sX7_hashOf_19, sX7_hashOf_22, sX7_hashOf_23, sX7_hashOf_26, sX7_hashOf_29, sX7_hashOf_30, hp_o, hp_1, hp_2, hp_3, hp_4, hp_5, hp_6, hp_7, hp_8, hp_9, hp_10, hp_11, hp_12, hp_13, hp_14, hp_15, hp_16, wp_o, wp_j, wp_f, wp_1, wp_2, wp_3, wp_4, wp_5, wp_6, wp_7, wp_8, wp_9, wp_10, wp_11, wp_12, wp_13, wp_14, wp_15, wp_16, gf_0, pf_0, gf_1, pf_1, gf_2, pf_2, gf_3, pf_3, gf_4, pf_4, gf_5, pf_5, gf_6, pf_6, gf_7, pf_7, gf_8, pf_8, gf_9, pf_9, gf_10, pf_10, gf_11, pf_11, gf_12, pf_12, gf_13, pf_13, gf_14, pf_14, gf_15, pf_15, gf_16, pf_16, gf_17, pf_17, gf_18, pf_18, gf_19, pf_19, List.set_cons_zero, List.set_cons_succ, al_0, as_0, cl0, m8, m10, m12, m32, m40, m64, m400, m4800, h1, if_true, sm]
  | succ k ih =>
    intro p s hp
    have h1 : ¬ nI fd ≤ nI p := by rw [nI_leI (by omega) (by omega)]; omega
    have h2 : p < 12 := by omega
    rw [sX7_hashOf_4]
    simp only [sX7_hashOf_0, sX7_hashOf_1, sX7_hashOf_2, sX7_hashOf_3, sX7_hashOf_5, sX7_hashOf_6, sX7_hashOf_9, sX7_hashOf_12, sX7_hashOf_13, sX7_hashOf_14, sX7_hashOf_17, sX7_hashOf_18, sX7_hashOf_19, sX7_hashOf_22, sX7_hashOf_23, sX7_hashOf_26, sX7_hashOf_29, sX7_hashOf_30, hp_o, hp_1, hp_2, hp_3, hp_4, hp_5, hp_6, hp_7, hp_8, hp_9, hp_10, hp_11, hp_12, hp_13, hp_14, hp_15, hp_16, wp_o, wp_j, wp_f, wp_1, wp_2, wp_3, wp_4, wp_5, wp_6, wp_7, wp_8, wp_9, wp_10, wp_11, wp_12, wp_13, wp_14, wp_15, wp_16, gf_0, pf_0, gf_1, pf_1, gf_2, pf_2, gf_3, pf_3, gf_4, pf_4, gf_5, pf_5, gf_6, pf_6, gf_7, pf_7, gf_8, pf_8, gf_9, pf_9, gf_10, pf_10, gf_11, pf_11, gf_12, pf_12, gf_13, pf_13, gf_14, pf_14, gf_15, pf_15, gf_16, pf_16, gf_17, pf_17, gf_18, pf_18, gf_19, pf_19, List.set_cons_zero, List.set_cons_succ, al_0, as_0, cl0, m8, m10, m12, m32, m40, m64, m400, m4800, bd_v, bi_v, Option.toList, List.cons_append, List.nil_append, List.length_cons, List.length_nil, Nat.reduceAdd, Nat.reduceLeDiff, ck_in, nI_add, nI_1, if_false, if_true, h1, al_in h2 (show 12 ≤ 100000 by omega), X_more]
    rw [sm]
    exact ih (p + 1) _ (by omega)
theorem X_hashOf (hf : fd ≤ 12) : cl 104 [.ref m] ((hp h0 m c n jl fd aN aS aB aU aH aD aX aM aW aI aT aA aK aL aF aP), z) = some (.inl (some (.int (sm mix aF 0 fd 0))), ((hp h0 m c n jl fd aN aS aB aU aH aD aX aM aW aI aT aA aK aL aF aP), z)) := by
  rw [eX7_hashOf]
  simp only [sX7_hashOf_0, sX7_hashOf_1, sX7_hashOf_2, sX7_hashOf_3]
  exact hashOf_l hf fd 0 0 (by omega)
/-- is a page altered -/
def anyK (aK : Nat → Int32) : Nat → Int32 → Int32
  | 0, s => s
  | k + 1, s => anyK aK k (if s = 0 then (if aK (2560 - (k + 1)) = 0 then 0 else 1) else 1)
theorem isAltered_l : ∀ (k p : Nat) (s : Int32), p + k = 2560 → (s = 0 ∨ s = 1) → ∃ r : Int32, (r = 0 ∨ r = 1) ∧ (r = 0 ↔ (s = 0 ∧ ∀ j, p ≤ j → j < 2560 → aK j = 0)) ∧ rn 101 4 [.ref m, .int s, .int (nI p)] [] ((hp h0 m c n jl fd aN aS aB aU aH aD aX aM aW aI aT aA aK aL aF aP), z) = some (.inl (some (.int r)), ((hp h0 m c n jl fd aN aS aB aU aH aD aX aM aW aI aT aA aK aL aF aP), z)) := by
  intro k
  induction k with
  | zero =>
    intro p s hp hs
    have h1 : (2560 : Int32) ≤ nI p := by rw [show (2560 : Int32) = nI 2560 from rfl, nI_leI (by omega) (by omega)]; omega
    refine ⟨s, hs, ⟨fun q => ⟨q, fun j _ _ => by omega⟩, fun q => q.1⟩, ?_⟩
    rw [sX7_isAltered_4]
    rcases hs with rfl | rfl
    · simp only [sX7_isAltered_0, sX7_isAltered_1, sX7_isAltered_2, sX7_isAltered_3, sX7_isAltered_5, sX7_isAltered_8, sX7_isAltered_11, sX7_isAltered_12, sX7_isAltered_15, sX7_isAltered_16, sX7_isAltered_19, sX7_isAltered_20, sX7_isAltered_21, sX7_isAltered_24, sX7_isAltered_25, sX7_isAltered_28, sX7_isAltered_29, sX7_isAltered_30, sX7_isAltered_33, sX7_isAltered_36, sX7_isAltered_37, sX7_isAltered_37t, h1, if_true]
    · simp only [sX7_isAltered_0, sX7_isAltered_1, sX7_isAltered_2, sX7_isAltered_3, sX7_isAltered_5, sX7_isAltered_8, sX7_isAltered_11, sX7_isAltered_12, sX7_isAltered_15, sX7_isAltered_16, sX7_isAltered_19, sX7_isAltered_20, sX7_isAltered_21, sX7_isAltered_24, sX7_isAltered_25, sX7_isAltered_28, sX7_isAltered_29, sX7_isAltered_30, sX7_isAltered_33, sX7_isAltered_36, sX7_isAltered_37, sX7_isAltered_37t, h1, if_true]
  | succ k ih =>
    intro p s hp hs
    have h1 : ¬ (2560 : Int32) ≤ nI p := by rw [show (2560 : Int32) = nI 2560 from rfl, nI_leI (by omega) (by omega)]; omega
    have h2 : p < 2560 := by omega
    rcases hs with rfl | rfl
    · by_cases q : aK p = 0
      · obtain ⟨r, r1, r2, r3⟩ := ih (p + 1) 0 (by omega) (Or.inl rfl)
        refine ⟨r, r1, ⟨fun w => ⟨rfl, fun j hj1 hj2 => ?_⟩, fun w => r2.mpr ⟨rfl, fun j hj1 hj2 => w.2 j (by omega) hj2⟩⟩, ?_⟩
        · by_cases e : j = p
          · rw [e]; exact q
          · exact (r2.mp w).2 j (by omega) hj2
        · rw [sX7_isAltered_4]
          simp only [sX7_isAltered_0, sX7_isAltered_1, sX7_isAltered_2, sX7_isAltered_3, sX7_isAltered_5, sX7_isAltered_8, sX7_isAltered_11, sX7_isAltered_12, sX7_isAltered_15, sX7_isAltered_16, sX7_isAltered_19, sX7_isAltered_20, sX7_isAltered_21, sX7_isAltered_24, sX7_isAltered_25, sX7_isAltered_28, sX7_isAltered_29, sX7_isAltered_30, sX7_isAltered_33, sX7_isAltered_36, sX7_isAltered_37, sX7_isAltered_37t, hp_o, hp_1, hp_2, hp_3, hp_4, hp_5, hp_6, hp_7, hp_8, hp_9, hp_10, hp_11, hp_12, hp_13, hp_14, hp_15, hp_16, wp_o, wp_j, wp_f, wp_1, wp_2, wp_3, wp_4, wp_5, wp_6, wp_7, wp_8, wp_9, wp_10, wp_11, wp_12, wp_13, wp_14, wp_15, wp_16, gf_0, pf_0, gf_1, pf_1, gf_2, pf_2, gf_3, pf_3, gf_4, pf_4, gf_5, pf_5, gf_6, pf_6, gf_7, pf_7, gf_8, pf_8, gf_9, pf_9, gf_10, pf_10, gf_11, pf_11, gf_12, pf_12, gf_13, pf_13, gf_14, pf_14, gf_15, pf_15, gf_16, pf_16, gf_17, pf_17, gf_18, pf_18, gf_19, pf_19, List.set_cons_zero, List.set_cons_succ, al_0, as_0, cl0, m8, m10, m12, m32, m40, m64, m400, m4800, bd_v, bi_v, Option.toList, List.cons_append, List.nil_append, List.length_cons, List.length_nil, Nat.reduceAdd, Nat.reduceLeDiff, ck_in, nI_add, nI_1, if_false, if_true, h1, not_true_eq_false, al_in h2 (show 2560 ≤ 100000 by omega), q]
          exact r3
      · obtain ⟨r, r1, r2, r3⟩ := ih (p + 1) 1 (by omega) (Or.inr rfl)
        refine ⟨r, r1, ⟨fun w => absurd (r2.mp w).1 (by decide), fun w => absurd (w.2 p (Nat.le_refl _) h2) q⟩, ?_⟩
        rw [sX7_isAltered_4]
        simp only [sX7_isAltered_0, sX7_isAltered_1, sX7_isAltered_2, sX7_isAltered_3, sX7_isAltered_5, sX7_isAltered_8, sX7_isAltered_11, sX7_isAltered_12, sX7_isAltered_15, sX7_isAltered_16, sX7_isAltered_19, sX7_isAltered_20, sX7_isAltered_21, sX7_isAltered_24, sX7_isAltered_25, sX7_isAltered_28, sX7_isAltered_29, sX7_isAltered_30, sX7_isAltered_33, sX7_isAltered_36, sX7_isAltered_37, sX7_isAltered_37t, hp_o, hp_1, hp_2, hp_3, hp_4, hp_5, hp_6, hp_7, hp_8, hp_9, hp_10, hp_11, hp_12, hp_13, hp_14, hp_15, hp_16, wp_o, wp_j, wp_f, wp_1, wp_2, wp_3, wp_4, wp_5, wp_6, wp_7, wp_8, wp_9, wp_10, wp_11, wp_12, wp_13, wp_14, wp_15, wp_16, gf_0, pf_0, gf_1, pf_1, gf_2, pf_2, gf_3, pf_3, gf_4, pf_4, gf_5, pf_5, gf_6, pf_6, gf_7, pf_7, gf_8, pf_8, gf_9, pf_9, gf_10, pf_10, gf_11, pf_11, gf_12, pf_12, gf_13, pf_13, gf_14, pf_14, gf_15, pf_15, gf_16, pf_16, gf_17, pf_17, gf_18, pf_18, gf_19, pf_19, List.set_cons_zero, List.set_cons_succ, al_0, as_0, cl0, m8, m10, m12, m32, m40, m64, m400, m4800, bd_v, bi_v, Option.toList, List.cons_append, List.nil_append, List.length_cons, List.length_nil, Nat.reduceAdd, Nat.reduceLeDiff, ck_in, nI_add, nI_1, if_false, if_true, h1, not_true_eq_false, al_in h2 (show 2560 ≤ 100000 by omega), q]
        exact r3
    · obtain ⟨r, r1, r2, r3⟩ := ih (p + 1) 1 (by omega) (Or.inr rfl)
      refine ⟨r, r1, ⟨fun w => absurd (r2.mp w).1 (by decide), fun w => absurd w.1 (by decide)⟩, ?_⟩
      rw [sX7_isAltered_4]
      simp only [sX7_isAltered_0, sX7_isAltered_1, sX7_isAltered_2, sX7_isAltered_3, sX7_isAltered_5, sX7_isAltered_8, sX7_isAltered_11, sX7_isAltered_12, sX7_isAltered_15, sX7_isAltered_16, sX7_isAltered_19, sX7_isAltered_20, sX7_isAltered_21, sX7_isAltered_24, sX7_isAltered_25, sX7_isAltered_28, sX7_isAltered_29, sX7_isAltered_30, sX7_isAltered_33, sX7_isAltered_36, sX7_isAltered_37, sX7_isAltered_37t, hp_o, hp_1, hp_2, hp_3, hp_4, hp_5, hp_6, hp_7, hp_8, hp_9, hp_10, hp_11, hp_12, hp_13, hp_14, hp_15, hp_16, wp_o, wp_j, wp_f, wp_1, wp_2, wp_3, wp_4, wp_5, wp_6, wp_7, wp_8, wp_9, wp_10, wp_11, wp_12, wp_13, wp_14, wp_15, wp_16, gf_0, pf_0, gf_1, pf_1, gf_2, pf_2, gf_3, pf_3, gf_4, pf_4, gf_5, pf_5, gf_6, pf_6, gf_7, pf_7, gf_8, pf_8, gf_9, pf_9, gf_10, pf_10, gf_11, pf_11, gf_12, pf_12, gf_13, pf_13, gf_14, pf_14, gf_15, pf_15, gf_16, pf_16, gf_17, pf_17, gf_18, pf_18, gf_19, pf_19, List.set_cons_zero, List.set_cons_succ, al_0, as_0, cl0, m8, m10, m12, m32, m40, m64, m400, m4800, bd_v, bi_v, Option.toList, List.cons_append, List.nil_append, List.length_cons, List.length_nil, Nat.reduceAdd, Nat.reduceLeDiff, ck_in, nI_add, nI_1, if_false, if_true, h1, show ¬ ((1 : Int32) = 0) by decide, not_false_eq_true]
      exact r3
theorem X_isAltered : cl 101 [.ref m] ((hp h0 m c n jl fd aN aS aB aU aH aD aX aM aW aI aT aA aK aL aF aP), z) = some (.inl (some (.int (if nzc aK 2560 = 0 then 0 else 1))), ((hp h0 m c n jl fd aN aS aB aU aH aD aX aM aW aI aT aA aK aL aF aP), z)) := by
  obtain ⟨r, r1, r2, r3⟩ := isAltered_l (h0 := h0) (m := m) (n := n) (jl := jl) (fd := fd) (c := c) (aN := aN) (aS := aS) (aB := aB) (aU := aU) (aH := aH) (aD := aD) (aX := aX) (aM := aM) (aW := aW) (aI := aI) (aT := aT) (aA := aA) (aK := aK) (aL := aL) (aF := aF) (aP := aP) (z := z) 2560 0 0 (by omega) (Or.inl rfl)
  have e : r = if nzc aK 2560 = 0 then 0 else 1 := by
    by_cases q : nzc aK 2560 = 0
    · rw [if_pos q]
      exact r2.mpr ⟨rfl, fun j _ hj => (nzc_zero aK 2560).mp q j hj⟩
    · rw [if_neg q]
      rcases r1 with r1 | r1
      · exact absurd ((nzc_zero aK 2560).mpr (fun j hj => (r2.mp r1).2 j (Nat.zero_le _) hj)) q
      · exact r1
  rw [← e, eX7_isAltered]
  simp only [sX7_isAltered_0, sX7_isAltered_1, sX7_isAltered_2, sX7_isAltered_3]
  exact r3
theorem X_may (hf : fd ≤ 12) : cl 100 [.ref m] ((hp h0 m c n jl fd aN aS aB aU aH aD aX aM aW aI aT aA aK aL aF aP), z) = some (.inl (some (.int (if nzc aK 2560 = 0 ∧ fd ≠ 0 then 1 else 0))), ((hp h0 m (if nzc aK 2560 = 0 ∧ fd ≠ 0 then 0 else 1) n jl fd aN aS aB aU aH aD aX aM aW aI aT aA aK aL aF aP), z)) := by
  have e : (nI fd = 0) ↔ fd = 0 := nI_eq (b := 0) (by omega) (by omega)
  rw [eX7_may]
  by_cases q1 : fd = 0
  · rw [if_neg (fun q => q.2 q1), if_neg (fun q => q.2 q1)]
    simp only [sX7_may_0, sX7_may_1, sX7_may_2, sX7_may_5, sX7_may_8, sX7_may_9, sX7_may_12, sX7_may_15, sX7_may_16, sX7_may_19, sX7_may_20, sX7_may_23, sX7_may_24, sX7_may_27, sX7_may_30, sX7_may_31, sX7_may_34, sX7_may_35, sX7_may_35t, hp_o, hp_1, hp_2, hp_3, hp_4, hp_5, hp_6, hp_7, hp_8, hp_9, hp_10, hp_11, hp_12, hp_13, hp_14, hp_15, hp_16, wp_o, wp_j, wp_f, wp_1, wp_2, wp_3, wp_4, wp_5, wp_6, wp_7, wp_8, wp_9, wp_10, wp_11, wp_12, wp_13, wp_14, wp_15, wp_16, gf_0, pf_0, gf_1, pf_1, gf_2, pf_2, gf_3, pf_3, gf_4, pf_4, gf_5, pf_5, gf_6, pf_6, gf_7, pf_7, gf_8, pf_8, gf_9, pf_9, gf_10, pf_10, gf_11, pf_11, gf_12, pf_12, gf_13, pf_13, gf_14, pf_14, gf_15, pf_15, gf_16, pf_16, gf_17, pf_17, gf_18, pf_18, gf_19, pf_19, List.set_cons_zero, List.set_cons_succ, al_0, as_0, cl0, m8, m10, m12, m32, m40, m64, m400, m4800, bd_v, bi_v, Option.toList, List.cons_append, List.nil_append, List.length_cons, List.length_nil, Nat.reduceAdd, Nat.reduceLeDiff, ck_in, nI_add, nI_1, if_false, if_true, eq_true (e.mpr q1), not_false_eq_true, show ¬ ((1 : Int32) = 0) by decide]
  · by_cases q2 : nzc aK 2560 = 0
    · rw [if_pos ⟨q2, q1⟩, if_pos ⟨q2, q1⟩]
      simp only [sX7_may_0, sX7_may_1, sX7_may_2, sX7_may_5, sX7_may_8, sX7_may_9, sX7_may_12, sX7_may_15, sX7_may_16, sX7_may_19, sX7_may_20, sX7_may_23, sX7_may_24, sX7_may_27, sX7_may_30, sX7_may_31, sX7_may_34, sX7_may_35, sX7_may_35t, hp_o, hp_1, hp_2, hp_3, hp_4, hp_5, hp_6, hp_7, hp_8, hp_9, hp_10, hp_11, hp_12, hp_13, hp_14, hp_15, hp_16, wp_o, wp_j, wp_f, wp_1, wp_2, wp_3, wp_4, wp_5, wp_6, wp_7, wp_8, wp_9, wp_10, wp_11, wp_12, wp_13, wp_14, wp_15, wp_16, gf_0, pf_0, gf_1, pf_1, gf_2, pf_2, gf_3, pf_3, gf_4, pf_4, gf_5, pf_5, gf_6, pf_6, gf_7, pf_7, gf_8, pf_8, gf_9, pf_9, gf_10, pf_10, gf_11, pf_11, gf_12, pf_12, gf_13, pf_13, gf_14, pf_14, gf_15, pf_15, gf_16, pf_16, gf_17, pf_17, gf_18, pf_18, gf_19, pf_19, List.set_cons_zero, List.set_cons_succ, al_0, as_0, cl0, m8, m10, m12, m32, m40, m64, m400, m4800, bd_v, bi_v, Option.toList, List.cons_append, List.nil_append, List.length_cons, List.length_nil, Nat.reduceAdd, Nat.reduceLeDiff, ck_in, nI_add, nI_1, if_false, if_true, mt e.mp q1, X_isAltered, q2, not_true_eq_false]
    · rw [if_neg (fun q => q2 q.1), if_neg (fun q => q2 q.1)]
      simp only [sX7_may_0, sX7_may_1, sX7_may_2, sX7_may_5, sX7_may_8, sX7_may_9, sX7_may_12, sX7_may_15, sX7_may_16, sX7_may_19, sX7_may_20, sX7_may_23, sX7_may_24, sX7_may_27, sX7_may_30, sX7_may_31, sX7_may_34, sX7_may_35, sX7_may_35t, hp_o, hp_1, hp_2, hp_3, hp_4, hp_5, hp_6, hp_7, hp_8, hp_9, hp_10, hp_11, hp_12, hp_13, hp_14, hp_15, hp_16, wp_o, wp_j, wp_f, wp_1, wp_2, wp_3, wp_4, wp_5, wp_6, wp_7, wp_8, wp_9, wp_10, wp_11, wp_12, wp_13, wp_14, wp_15, wp_16, gf_0, pf_0, gf_1, pf_1, gf_2, pf_2, gf_3, pf_3, gf_4, pf_4, gf_5, pf_5, gf_6, pf_6, gf_7, pf_7, gf_8, pf_8, gf_9, pf_9, gf_10, pf_10, gf_11, pf_11, gf_12, pf_12, gf_13, pf_13, gf_14, pf_14, gf_15, pf_15, gf_16, pf_16, gf_17, pf_17, gf_18, pf_18, gf_19, pf_19, List.set_cons_zero, List.set_cons_succ, al_0, as_0, cl0, m8, m10, m12, m32, m40, m64, m400, m4800, bd_v, bi_v, Option.toList, List.cons_append, List.nil_append, List.length_cons, List.length_nil, Nat.reduceAdd, Nat.reduceLeDiff, ck_in, nI_add, nI_1, if_false, if_true, mt e.mp q1, X_isAltered, q2, not_true_eq_false, not_false_eq_true, show ¬ ((1 : Int32) = 0) by decide]
theorem X_feed (hf : fd ≤ 12) (x : Int32) : cl 97 [.ref m, .int x] ((hp h0 m c n jl fd aN aS aB aU aH aD aX aM aW aI aT aA aK aL aF aP), z) = (if un x < 256 then (if fd = 12 then some (.inl (some (.int 0)), ((hp h0 m (0) n jl fd aN aS aB aU aH aD aX aM aW aI aT aA aK aL aF aP), z)) else some (.inl (some (.int 1)), ((hp h0 m (0) n jl (fd + 1) aN aS aB aU aH aD aX aM aW aI aT aA aK aL (upd aF fd x) aP), z))) else some (.inl (some (.int 0)), ((hp h0 m (1) n jl fd aN aS aB aU aH aD aX aM aW aI aT aA aK aL aF aP), z))) := by
  have e0 : ((0 : Int32) ≤ x) ↔ (0 ≤ un x ∧ un x < 2 ^ 31) := le_un (k := 0) (by omega)
  have e1 : (x ≤ 255) ↔ (un x ≤ 255 ∨ 2 ^ 31 ≤ un x) := ge_un (k := 255) (by omega)
  have e2 : (nI fd = 12) ↔ fd = 12 := nI_eq (b := 12) (by omega) (by omega)
  rw [eX7_feed]
  by_cases q : un x < 256
  · have q' : (0 : Int32) ≤ x ∧ x ≤ 255 := ⟨e0.mpr (by omega), e1.mpr (by omega)⟩
    rw [if_pos q]
    by_cases d : fd = 12
    · rw [if_pos d]
      simp only [sX7_feed_0, sX7_feed_1, sX7_feed_2, sX7_feed_3, sX7_feed_6, sX7_feed_9, sX7_feed_12, sX7_feed_13, sX7_feed_16, sX7_feed_17, sX7_feed_20, sX7_feed_21, sX7_feed_24, sX7_feed_27, sX7_feed_28, sX7_feed_31, sX7_feed_33, sX7_feed_36, sX7_feed_37, sX7_feed_37t, sX7_feed_38, sX7_feed_39, sX7_feed_42, sX7_feed_43, sX7_feed_46, sX7_feed_47, sX7_feed_48, sX7_feed_49, sX7_feed_49i, sX7_feed_50, sX7_feed_53, sX7_feed_54, sX7_feed_55, sX7_feed_58, sX7_feed_59, sX7_feed_59t, hp_o, hp_1, hp_2, hp_3, hp_4, hp_5, hp_6, hp_7, hp_8, hp_9, hp_10, hp_11, hp_12, hp_13, hp_14, hp_15, hp_16, wp_o, wp_j, wp_f, wp_1, wp_2, wp_3, wp_4, wp_5, wp_6, wp_7, wp_8, wp_9, wp_10, wp_11, wp_12, wp_13, wp_14, wp_15, wp_16, gf_0, pf_0, gf_1, pf_1, gf_2, pf_2, gf_3, pf_3, gf_4, pf_4, gf_5, pf_5, gf_6, pf_6, gf_7, pf_7, gf_8, pf_8, gf_9, pf_9, gf_10, pf_10, gf_11, pf_11, gf_12, pf_12, gf_13, pf_13, gf_14, pf_14, gf_15, pf_15, gf_16, pf_16, gf_17, pf_17, gf_18, pf_18, gf_19, pf_19, List.set_cons_zero, List.set_cons_succ, al_0, as_0, cl0, m8, m10, m12, m32, m40, m64, m400, m4800, bd_v, bi_v, Option.toList, List.cons_append, List.nil_append, List.length_cons, List.length_nil, Nat.reduceAdd, Nat.reduceLeDiff, ck_in, nI_add, nI_1, if_false, if_true, X_in, q', and_self, show ¬ ((1 : Int32) = 0) by decide, show ¬ ((0 : Int32) < 0) by decide, eq_true (e2.mpr d), not_true_eq_false]
    · have d2 : fd < 12 := by omega
      rw [if_neg d]
      simp only [sX7_feed_0, sX7_feed_1, sX7_feed_2, sX7_feed_3, sX7_feed_6, sX7_feed_9, sX7_feed_12, sX7_feed_13, sX7_feed_16, sX7_feed_17, sX7_feed_20, sX7_feed_21, sX7_feed_24, sX7_feed_27, sX7_feed_28, sX7_feed_31, sX7_feed_33, sX7_feed_36, sX7_feed_37, sX7_feed_37t, sX7_feed_38, sX7_feed_39, sX7_feed_42, sX7_feed_43, sX7_feed_46, sX7_feed_47, sX7_feed_48, sX7_feed_49, sX7_feed_49i, sX7_feed_50, sX7_feed_53, sX7_feed_54, sX7_feed_55, sX7_feed_58, sX7_feed_59, sX7_feed_59t, hp_o, hp_1, hp_2, hp_3, hp_4, hp_5, hp_6, hp_7, hp_8, hp_9, hp_10, hp_11, hp_12, hp_13, hp_14, hp_15, hp_16, wp_o, wp_j, wp_f, wp_1, wp_2, wp_3, wp_4, wp_5, wp_6, wp_7, wp_8, wp_9, wp_10, wp_11, wp_12, wp_13, wp_14, wp_15, wp_16, gf_0, pf_0, gf_1, pf_1, gf_2, pf_2, gf_3, pf_3, gf_4, pf_4, gf_5, pf_5, gf_6, pf_6, gf_7, pf_7, gf_8, pf_8, gf_9, pf_9, gf_10, pf_10, gf_11, pf_11, gf_12, pf_12, gf_13, pf_13, gf_14, pf_14, gf_15, pf_15, gf_16, pf_16, gf_17, pf_17, gf_18, pf_18, gf_19, pf_19, List.set_cons_zero, List.set_cons_succ, al_0, as_0, cl0, m8, m10, m12, m32, m40, m64, m400, m4800, bd_v, bi_v, Option.toList, List.cons_append, List.nil_append, List.length_cons, List.length_nil, Nat.reduceAdd, Nat.reduceLeDiff, ck_in, nI_add, nI_1, if_false, if_true, X_in, q', and_self, show ¬ ((1 : Int32) = 0) by decide, show ¬ ((0 : Int32) < 0) by decide, mt e2.mp d, not_false_eq_true, as_in d2 (show 12 ≤ 100000 by omega), cl_nI (show fd < 100001 by omega)]
  · have q' : ¬ ((0 : Int32) ≤ x ∧ x ≤ 255) := fun w => by have h1 := e0.mp w.1; have h2 := e1.mp w.2; omega
    rw [if_neg q]
    simp only [sX7_feed_0, sX7_feed_1, sX7_feed_2, sX7_feed_3, sX7_feed_6, sX7_feed_9, sX7_feed_12, sX7_feed_13, sX7_feed_16, sX7_feed_17, sX7_feed_20, sX7_feed_21, sX7_feed_24, sX7_feed_27, sX7_feed_28, sX7_feed_31, sX7_feed_33, sX7_feed_36, sX7_feed_37, sX7_feed_37t, sX7_feed_38, sX7_feed_39, sX7_feed_42, sX7_feed_43, sX7_feed_46, sX7_feed_47, sX7_feed_48, sX7_feed_49, sX7_feed_49i, sX7_feed_50, sX7_feed_53, sX7_feed_54, sX7_feed_55, sX7_feed_58, sX7_feed_59, sX7_feed_59t, hp_o, hp_1, hp_2, hp_3, hp_4, hp_5, hp_6, hp_7, hp_8, hp_9, hp_10, hp_11, hp_12, hp_13, hp_14, hp_15, hp_16, wp_o, wp_j, wp_f, wp_1, wp_2, wp_3, wp_4, wp_5, wp_6, wp_7, wp_8, wp_9, wp_10, wp_11, wp_12, wp_13, wp_14, wp_15, wp_16, gf_0, pf_0, gf_1, pf_1, gf_2, pf_2, gf_3, pf_3, gf_4, pf_4, gf_5, pf_5, gf_6, pf_6, gf_7, pf_7, gf_8, pf_8, gf_9, pf_9, gf_10, pf_10, gf_11, pf_11, gf_12, pf_12, gf_13, pf_13, gf_14, pf_14, gf_15, pf_15, gf_16, pf_16, gf_17, pf_17, gf_18, pf_18, gf_19, pf_19, List.set_cons_zero, List.set_cons_succ, al_0, as_0, cl0, m8, m10, m12, m32, m40, m64, m400, m4800, bd_v, bi_v, Option.toList, List.cons_append, List.nil_append, List.length_cons, List.length_nil, Nat.reduceAdd, Nat.reduceLeDiff, ck_in, nI_add, nI_1, if_false, if_true, X_in, q', show (0 : Int32) < 1 by decide]
end
