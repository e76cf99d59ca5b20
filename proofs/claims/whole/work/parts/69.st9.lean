/-! the law: one turn of its loop -/
def LI (h : Nat → Option va_E) (b L : Nat) (xs : Nat → Int32) (x m out n : Nat) (σ : St) : Prop := h b = some (.inl (4, L, .inl xs)) ∧ CI h x n σ ∧ SI n σ ∧ (∃ c, MR h m n σ h c) ∧ (∃ f : Nat → Int64, h out = some (.inl (2, 1, .inr (.inl f)))) ∧ b < x ∧ m = x + 27 + 6 * n ∧ out = m + 17
theorem zt_b (o : Int32 ⊕ Nat) (z : Nat × Nat × Nat) : (zt o z).2.1 ≤ z.2.1 + 1 ∧ (zt o z).2.2 ≤ z.2.2 + 6 := by
  cases o with
  | inl v => exact ⟨Nat.le_succ _, Nat.le_add_right _ _⟩
  | inr E => exact ⟨Nat.le_refl _, Nat.le_refl _⟩
theorem k1_ne (E : Nat) : k1 E ≠ 0 := by unfold k1; decide
section
variable {h : Nat → Option va_E} {b L : Nat} {xs : Nat → Int32} {x m out n : Nat} {σ : St} {z : Nat × Nat × Nat} {kc : Nat → Int32} {g : Int32 → Int64} {o : (Int32 ⊕ Nat) × St} {Y : Option am_R}
theorem law_and (I : LI h b L xs x m out n σ) (y : LR Y h x n out z kc g o) (hk : ∀ E, kc E ≠ 0) (hs : SI n o.2) (X : am_S → Option am_R) (Xo : ∀ h1 z1 c, MR h1 m n σ h1 c → OR (X (h1, z1)) z1 h1 m n kc o) :
    ∃ (kk : Int32) (h1 : Nat → Option va_E) (z1 : Nat × Nat × Nat) (r : Int32) (h2 : Nat → Option va_E) (f : Nat → Int64), Y = some (.inl (some (.int kk)), (h1, z1)) ∧ h1 b = some (.inl (4, L, .inl xs)) ∧ (∃ fs, h1 m = some (.inr (7, fs))) ∧ X (h1, z1) = some (.inl (some (.int r)), (h2, z1)) ∧ (∃ fs, h2 m = some (.inr (7, fs))) ∧ cl 96 [.ref m] (h2, z1) = some (.inl (some (.int kk)), (h2, z1)) ∧ h2 out = some (.inl (2, 1, .inr (.inl f))) ∧ (kk = 0 → f 0 = g r) ∧ LI h2 b L xs x m out n o.2 ∧ z1.2.1 ≤ z.2.1 + 1 ∧ z1.2.2 ≤ z.2.2 + 6 := by
  obtain ⟨i1, i2, i3, ⟨c, i4⟩, -, i6, i7, i8⟩ := I
  obtain ⟨kk, h1, f, y1, y2, y3, y4, y5, y6⟩ := y
  have fb : h1 b = some (.inl (4, L, .inl xs)) := (y3 b (Or.inl i6) (by omega)).trans i1
  have fm : ∀ a, m ≤ a → a < m + 17 → h1 a = h a := fun a a1 a2 => y3 a (Or.inr (by omega)) (by omega)
  have d1 := i4.fr fm
  obtain ⟨r, h2, c2, x1, x2, x3, x4⟩ := Xo h1 (zt o.1 z) c d1
  have g2 : ∀ a, (a < m ∨ m + 17 ≤ a) → h2 a = h1 a := fun a ha => x2.out ha
  have hc : c2 = kk ∧ (kk = 0 → f 0 = g r) := by
    cases ho : o.1 with
    | inl v =>
      obtain ⟨p1, p2⟩ := x3 v ho
      obtain ⟨q1, q2⟩ := y5 v ho
      exact ⟨p1.trans q1.symm, fun _ => by rw [q2, p2]⟩
    | inr E =>
      have p := x4 E ho
      have q := y6 E ho
      exact ⟨p.trans q.symm, fun e => absurd (q.symm.trans e) (hk E)⟩
  obtain ⟨hc, hf⟩ := hc
  subst hc
  refine ⟨c2, h1, zt o.1 z, r, h2, f, y1, fb, d1.obj, x1, x2.obj, x2.thrown, (g2 out (by omega)).trans y4, hf, ⟨(g2 b (by omega)).trans fb, y2.fr (fun a a1 a2 => g2 a (by omega)), hs, ⟨c2, x2.fr (fun a _ _ => rfl)⟩, ⟨f, (g2 out (by omega)).trans y4⟩, i6, i7, i8⟩, (zt_b o.1 z).1, (zt_b o.1 z).2⟩
theorem k2_ne (E : Nat) : k2 E ≠ 0 := by
  unfold k2
  by_cases h : E = 2
  · rw [if_pos h]; decide
  · rw [if_neg h]; decide
theorem law_andv (I : LI h b L xs x m out n σ) (y : LRv Y h x n z kc o) (hs : SI n o.2) (X : am_S → Option am_R) (Xo : ∀ h1 z1 c, MR h1 m n σ h1 c → ORv (X (h1, z1)) z1 h1 m n kc o) :
    ∃ (kk : Int32) (h1 : Nat → Option va_E) (z1 : Nat × Nat × Nat) (h2 : Nat → Option va_E), Y = some (.inl (some (.int kk)), (h1, z1)) ∧ h1 b = some (.inl (4, L, .inl xs)) ∧ (∃ fs, h1 m = some (.inr (7, fs))) ∧ X (h1, z1) = some (.inl none, (h2, z1)) ∧ (∃ fs, h2 m = some (.inr (7, fs))) ∧ cl 96 [.ref m] (h2, z1) = some (.inl (some (.int kk)), (h2, z1)) ∧ LI h2 b L xs x m out n o.2 ∧ z1.2.1 ≤ z.2.1 + 1 ∧ z1.2.2 ≤ z.2.2 + 6 := by
  obtain ⟨i1, i2, i3, ⟨c, i4⟩, ⟨f, i5⟩, i6, i7, i8⟩ := I
  obtain ⟨kk, h1, y1, y2, y3, y5, y6⟩ := y
  have fb : h1 b = some (.inl (4, L, .inl xs)) := (y3 b (Or.inl i6)).trans i1
  have fo : h1 out = some (.inl (2, 1, .inr (.inl f))) := (y3 out (Or.inr (by omega))).trans i5
  have fm : ∀ a, m ≤ a → a < m + 17 → h1 a = h a := fun a a1 a2 => y3 a (Or.inr (by omega))
  have d1 := i4.fr fm
  obtain ⟨h2, c2, x1, x2, x3, x4⟩ := Xo h1 (zt o.1 z) c d1
  have g2 : ∀ a, (a < m ∨ m + 17 ≤ a) → h2 a = h1 a := fun a ha => x2.out ha
  have hc : c2 = kk := by
    cases ho : o.1 with
    | inl v => exact (x3 v ho).trans (y5 v ho).symm
    | inr E => exact (x4 E ho).trans (y6 E ho).symm
  subst hc
  refine ⟨c2, h1, zt o.1 z, h2, y1, fb, d1.obj, x1, x2.obj, x2.thrown, ⟨(g2 b (by omega)).trans fb, y2.fr (fun a a1 a2 => g2 a (by omega)), hs, ⟨c2, x2.fr (fun a _ _ => rfl)⟩, ⟨f, (g2 out (by omega)).trans fo⟩, i6, i7, i8⟩, (zt_b o.1 z).1, (zt_b o.1 z).2⟩
end
def CS (pc : Nat) (h : Nat → Option va_E) (b L : Nat) (xs : Nat → Int32) (x m out n i : Nat) (z : Nat × Nat × Nat) (w5 w6 : Value) : Prop := ∃ (h' : Nat → Option va_E) (σ' : St) (z' : Nat × Nat × Nat) (v5 v6 : Value), rn 135 pc [.ref b, .ref x, .ref m, .ref out, .int (nI i), w5, w6] [] (h, z) = rn 135 727 [.ref b, .ref x, .ref m, .ref out, .int (nI i), v5, v6] [] (h', z') ∧ LI h' b L xs x m out n σ' ∧ z'.2.1 ≤ z.2.1 + 1 ∧ z'.2.2 ≤ z.2.2 + 6
section
variable {h : Nat → Option va_E} {b L : Nat} {xs : Nat → Int32} {x m out n i : Nat} {σ : St} {z : Nat × Nat × Nat}
theorem nI_2 (i : Nat) : nI i + 2 = nI (i + 2) := nI_add i 2
theorem nI_3 (i : Nat) : nI i + 3 = nI (i + 3) := nI_add i 3

theorem C_feed (I : LI h b L xs x m out n σ) (hi : i + 4 ≤ L) (l1 : L ≤ 100000) (w5 w6 : Value) : CS 112 h b L xs x m out n i z w5 w6 := by
  obtain ⟨i1, i2, i3, -, ⟨f0, i5⟩, i6, i7, i8⟩ := id I
  have j1 : i + 1 < L := by omega
  have j2 : i + 2 < L := by omega
  have j3 : i + 3 < L := by omega
  obtain ⟨kk, h1, z1, r, h2, f, e1, e2, ⟨fs1, e3⟩, e4, ⟨fs2, e5⟩, e6, e7, e8, e9, e10, e11⟩ := law_and (z := z) I (W_feed i2 i3 i5 (by omega) (xs (i + 1))) k1_ne (SI_feed i3) (fun s => cl 97 [.ref m, .int (xs (i + 1))] s) (fun h1 z1 c d => by obtain ⟨S, Sv, M, J, jl, nm⟩ := σ; exact M_feed d i3 (xs (i + 1)))
  refine ⟨h2, _, z1, .int kk, .int r, ?_, e9, e10, e11⟩
  by_cases hk : kk = 0
  · subst hk
    have e8 := e8 rfl
    unfold gb at e8
    by_cases hr : r = 0
    · rw [if_pos hr] at e8
      simp only [sL_law_112, sL_law_113, sL_law_114, sL_law_116, sL_law_117, sL_law_118, sL_law_119, sL_law_120, sL_law_123, sL_law_125, sL_law_126, sL_law_127, sL_law_129, sL_law_130, sL_law_131, sL_law_132, sL_law_135, sL_law_137, sL_law_138, sL_law_141, sL_law_143, sL_law_146, sL_law_147, sL_law_147t, sL_law_148, sL_law_150, sL_law_153, sL_law_154, sL_law_155, sL_law_156, sL_law_158, sL_law_161, sL_law_162, sL_law_165, sL_law_166, sL_law_167, sL_law_170, sL_law_171, sL_law_171t, sL_law_172, bd_v, bi_v, Option.toList, List.cons_append, List.nil_append, List.length_cons, List.length_nil, Nat.reduceAdd, Nat.reduceLeDiff, ck_in, nI_add, nI_1, if_false, if_true, i1, nI_2, nI_3, al4 j1 l1, al4 j2 l1, al4 j3 l1, e1, e2, e3, e4, e5, e6, e7, ll_0, lg_eq, not_true_eq_false, not_false_eq_true, e8, eq_true hr]
    · rw [if_neg hr] at e8
      simp only [sL_law_112, sL_law_113, sL_law_114, sL_law_116, sL_law_117, sL_law_118, sL_law_119, sL_law_120, sL_law_123, sL_law_125, sL_law_126, sL_law_127, sL_law_129, sL_law_130, sL_law_131, sL_law_132, sL_law_135, sL_law_137, sL_law_138, sL_law_141, sL_law_143, sL_law_146, sL_law_147, sL_law_147t, sL_law_148, sL_law_150, sL_law_153, sL_law_154, sL_law_155, sL_law_156, sL_law_158, sL_law_161, sL_law_162, sL_law_165, sL_law_166, sL_law_167, sL_law_170, sL_law_171, sL_law_171t, sL_law_172, bd_v, bi_v, Option.toList, List.cons_append, List.nil_append, List.length_cons, List.length_nil, Nat.reduceAdd, Nat.reduceLeDiff, ck_in, nI_add, nI_1, if_false, if_true, i1, nI_2, nI_3, al4 j1 l1, al4 j2 l1, al4 j3 l1, e1, e2, e3, e4, e5, e6, e7, ll_0, lg_eq, not_true_eq_false, not_false_eq_true, e8, eq_false hr]
  · simp only [sL_law_112, sL_law_113, sL_law_114, sL_law_116, sL_law_117, sL_law_118, sL_law_119, sL_law_120, sL_law_123, sL_law_125, sL_law_126, sL_law_127, sL_law_129, sL_law_130, sL_law_131, sL_law_132, sL_law_135, sL_law_137, sL_law_138, sL_law_141, sL_law_143, sL_law_146, sL_law_147, sL_law_147t, sL_law_148, sL_law_150, sL_law_153, sL_law_154, sL_law_155, sL_law_156, sL_law_158, sL_law_161, sL_law_162, sL_law_165, sL_law_166, sL_law_167, sL_law_170, sL_law_171, sL_law_171t, sL_law_172, bd_v, bi_v, Option.toList, List.cons_append, List.nil_append, List.length_cons, List.length_nil, Nat.reduceAdd, Nat.reduceLeDiff, ck_in, nI_add, nI_1, if_false, if_true, i1, nI_2, nI_3, al4 j1 l1, al4 j2 l1, al4 j3 l1, e1, e2, e3, e4, e5, e6, e7, ll_0, lg_eq, not_true_eq_false, not_false_eq_true, eq_false hk]
theorem C_put (I : LI h b L xs x m out n σ) (hi : i + 4 ≤ L) (l1 : L ≤ 100000) (w5 w6 : Value) : CS 175 h b L xs x m out n i z w5 w6 := by
  obtain ⟨i1, i2, i3, -, ⟨f0, i5⟩, i6, i7, i8⟩ := id I
  have j1 : i + 1 < L := by omega
  have j2 : i + 2 < L := by omega
  have j3 : i + 3 < L := by omega
  obtain ⟨kk, h1, z1, r, h2, f, e1, e2, ⟨fs1, e3⟩, e4, ⟨fs2, e5⟩, e6, e7, e8, e9, e10, e11⟩ := law_and (z := z) I (W_put i2 i3 i5 (by omega) (xs (i + 1))) k1_ne (SI_put i3) (fun s => cl 99 [.ref m, .int (xs (i + 1))] s) (fun h1 z1 c d => by obtain ⟨S, Sv, M, J, jl, nm⟩ := σ; exact M_put d i3 (xs (i + 1)))
  refine ⟨h2, _, z1, .int kk, .int r, ?_, e9, e10, e11⟩
  by_cases hk : kk = 0
  · subst hk
    have e8 := e8 rfl
    unfold gl at e8
    simp only [sL_law_175, sL_law_176, sL_law_177, sL_law_179, sL_law_180, sL_law_181, sL_law_182, sL_law_183, sL_law_186, sL_law_188, sL_law_189, sL_law_190, sL_law_192, sL_law_193, sL_law_194, sL_law_195, sL_law_198, sL_law_200, sL_law_201, sL_law_204, sL_law_206, sL_law_209, sL_law_210, sL_law_210t, sL_law_211, sL_law_213, sL_law_216, sL_law_217, sL_law_218, sL_law_219, sL_law_221, sL_law_222, sL_law_223, sL_law_226, sL_law_227, sL_law_227t, sL_law_228, bd_v, bi_v, Option.toList, List.cons_append, List.nil_append, List.length_cons, List.length_nil, Nat.reduceAdd, Nat.reduceLeDiff, ck_in, nI_add, nI_1, if_false, if_true, i1, nI_2, nI_3, al4 j1 l1, al4 j2 l1, al4 j3 l1, e1, e2, e3, e4, e5, e6, e7, ll_0, lg_eq, not_true_eq_false, not_false_eq_true, e8]
  · simp only [sL_law_175, sL_law_176, sL_law_177, sL_law_179, sL_law_180, sL_law_181, sL_law_182, sL_law_183, sL_law_186, sL_law_188, sL_law_189, sL_law_190, sL_law_192, sL_law_193, sL_law_194, sL_law_195, sL_law_198, sL_law_200, sL_law_201, sL_law_204, sL_law_206, sL_law_209, sL_law_210, sL_law_210t, sL_law_211, sL_law_213, sL_law_216, sL_law_217, sL_law_218, sL_law_219, sL_law_221, sL_law_222, sL_law_223, sL_law_226, sL_law_227, sL_law_227t, sL_law_228, bd_v, bi_v, Option.toList, List.cons_append, List.nil_append, List.length_cons, List.length_nil, Nat.reduceAdd, Nat.reduceLeDiff, ck_in, nI_add, nI_1, if_false, if_true, i1, nI_2, nI_3, al4 j1 l1, al4 j2 l1, al4 j3 l1, e1, e2, e3, e4, e5, e6, e7, ll_0, lg_eq, not_true_eq_false, not_false_eq_true, eq_false hk]
theorem C_has (I : LI h b L xs x m out n σ) (hi : i + 4 ≤ L) (l1 : L ≤ 100000) (w5 w6 : Value) : CS 231 h b L xs x m out n i z w5 w6 := by
  obtain ⟨i1, i2, i3, -, ⟨f0, i5⟩, i6, i7, i8⟩ := id I
  have j1 : i + 1 < L := by omega
  have j2 : i + 2 < L := by omega
  have j3 : i + 3 < L := by omega
  obtain ⟨kk, h1, z1, r, h2, f, e1, e2, ⟨fs1, e3⟩, e4, ⟨fs2, e5⟩, e6, e7, e8, e9, e10, e11⟩ := law_and (z := z) I (W_has i2 i3 i5 (by omega) ) k1_ne (SI_has i3) (fun s => cl 109 [.ref m] s) (fun h1 z1 c d => by obtain ⟨S, Sv, M, J, jl, nm⟩ := σ; exact M_has d i3 )
  refine ⟨h2, _, z1, .int kk, .int r, ?_, e9, e10, e11⟩
  by_cases hk : kk = 0
  · subst hk
    have e8 := e8 rfl
    unfold gb at e8
    by_cases hr : r = 0
    · rw [if_pos hr] at e8
      simp only [sL_law_231, sL_law_232, sL_law_233, sL_law_236, sL_law_238, sL_law_239, sL_law_242, sL_law_244, sL_law_245, sL_law_248, sL_law_250, sL_law_253, sL_law_254, sL_law_254t, sL_law_255, sL_law_257, sL_law_260, sL_law_261, sL_law_262, sL_law_263, sL_law_265, sL_law_268, sL_law_269, sL_law_272, sL_law_273, sL_law_274, sL_law_277, sL_law_278, sL_law_278t, sL_law_279, bd_v, bi_v, Option.toList, List.cons_append, List.nil_append, List.length_cons, List.length_nil, Nat.reduceAdd, Nat.reduceLeDiff, ck_in, nI_add, nI_1, if_false, if_true, i1, nI_2, nI_3, al4 j1 l1, al4 j2 l1, al4 j3 l1, e1, e2, e3, e4, e5, e6, e7, ll_0, lg_eq, not_true_eq_false, not_false_eq_true, e8, eq_true hr]
    · rw [if_neg hr] at e8
      simp only [sL_law_231, sL_law_232, sL_law_233, sL_law_236, sL_law_238, sL_law_239, sL_law_242, sL_law_244, sL_law_245, sL_law_248, sL_law_250, sL_law_253, sL_law_254, sL_law_254t, sL_law_255, sL_law_257, sL_law_260, sL_law_261, sL_law_262, sL_law_263, sL_law_265, sL_law_268, sL_law_269, sL_law_272, sL_law_273, sL_law_274, sL_law_277, sL_law_278, sL_law_278t, sL_law_279, bd_v, bi_v, Option.toList, List.cons_append, List.nil_append, List.length_cons, List.length_nil, Nat.reduceAdd, Nat.reduceLeDiff, ck_in, nI_add, nI_1, if_false, if_true, i1, nI_2, nI_3, al4 j1 l1, al4 j2 l1, al4 j3 l1, e1, e2, e3, e4, e5, e6, e7, ll_0, lg_eq, not_true_eq_false, not_false_eq_true, e8, eq_false hr]
  · simp only [sL_law_231, sL_law_232, sL_law_233, sL_law_236, sL_law_238, sL_law_239, sL_law_242, sL_law_244, sL_law_245, sL_law_248, sL_law_250, sL_law_253, sL_law_254, sL_law_254t, sL_law_255, sL_law_257, sL_law_260, sL_law_261, sL_law_262, sL_law_263, sL_law_265, sL_law_268, sL_law_269, sL_law_272, sL_law_273, sL_law_274, sL_law_277, sL_law_278, sL_law_278t, sL_law_279, bd_v, bi_v, Option.toList, List.cons_append, List.nil_append, List.length_cons, List.length_nil, Nat.reduceAdd, Nat.reduceLeDiff, ck_in, nI_add, nI_1, if_false, if_true, i1, nI_2, nI_3, al4 j1 l1, al4 j2 l1, al4 j3 l1, e1, e2, e3, e4, e5, e6, e7, ll_0, lg_eq, not_true_eq_false, not_false_eq_true, eq_false hk]
theorem C_find (I : LI h b L xs x m out n σ) (hi : i + 4 ≤ L) (l1 : L ≤ 100000) (w5 w6 : Value) : CS 282 h b L xs x m out n i z w5 w6 := by
  obtain ⟨i1, i2, i3, -, ⟨f0, i5⟩, i6, i7, i8⟩ := id I
  have j1 : i + 1 < L := by omega
  have j2 : i + 2 < L := by omega
  have j3 : i + 3 < L := by omega
  obtain ⟨kk, h1, z1, r, h2, f, e1, e2, ⟨fs1, e3⟩, e4, ⟨fs2, e5⟩, e6, e7, e8, e9, e10, e11⟩ := law_and (z := z) I (W_find i2 i3 i5 (by omega) ) k1_ne (SI_find i3) (fun s => cl 110 [.ref m] s) (fun h1 z1 c d => by obtain ⟨S, Sv, M, J, jl, nm⟩ := σ; exact M_find d i3 )
  refine ⟨h2, _, z1, .int kk, .int r, ?_, e9, e10, e11⟩
  by_cases hk : kk = 0
  · subst hk
    have e8 := e8 rfl
    unfold gl at e8
    simp only [sL_law_282, sL_law_283, sL_law_284, sL_law_287, sL_law_289, sL_law_290, sL_law_293, sL_law_295, sL_law_296, sL_law_299, sL_law_301, sL_law_304, sL_law_305, sL_law_305t, sL_law_306, sL_law_308, sL_law_311, sL_law_312, sL_law_313, sL_law_314, sL_law_316, sL_law_317, sL_law_318, sL_law_321, sL_law_322, sL_law_322t, sL_law_323, bd_v, bi_v, Option.toList, List.cons_append, List.nil_append, List.length_cons, List.length_nil, Nat.reduceAdd, Nat.reduceLeDiff, ck_in, nI_add, nI_1, if_false, if_true, i1, nI_2, nI_3, al4 j1 l1, al4 j2 l1, al4 j3 l1, e1, e2, e3, e4, e5, e6, e7, ll_0, lg_eq, not_true_eq_false, not_false_eq_true, e8]
  · simp only [sL_law_282, sL_law_283, sL_law_284, sL_law_287, sL_law_289, sL_law_290, sL_law_293, sL_law_295, sL_law_296, sL_law_299, sL_law_301, sL_law_304, sL_law_305, sL_law_305t, sL_law_306, sL_law_308, sL_law_311, sL_law_312, sL_law_313, sL_law_314, sL_law_316, sL_law_317, sL_law_318, sL_law_321, sL_law_322, sL_law_322t, sL_law_323, bd_v, bi_v, Option.toList, List.cons_append, List.nil_append, List.length_cons, List.length_nil, Nat.reduceAdd, Nat.reduceLeDiff, ck_in, nI_add, nI_1, if_false, if_true, i1, nI_2, nI_3, al4 j1 l1, al4 j2 l1, al4 j3 l1, e1, e2, e3, e4, e5, e6, e7, ll_0, lg_eq, not_true_eq_false, not_false_eq_true, eq_false hk]
theorem C_save (I : LI h b L xs x m out n σ) (hi : i + 4 ≤ L) (l1 : L ≤ 100000) (w5 w6 : Value) : CS 326 h b L xs x m out n i z w5 w6 := by
  obtain ⟨i1, i2, i3, -, ⟨f0, i5⟩, i6, i7, i8⟩ := id I
  have j1 : i + 1 < L := by omega
  have j2 : i + 2 < L := by omega
  have j3 : i + 3 < L := by omega
  obtain ⟨kk, h1, z1, r, h2, f, e1, e2, ⟨fs1, e3⟩, e4, ⟨fs2, e5⟩, e6, e7, e8, e9, e10, e11⟩ := law_and (z := z) I (W_save i2 i3 i5 (by omega) ) k1_ne (SI_save i3) (fun s => cl 111 [.ref m] s) (fun h1 z1 c d => by obtain ⟨S, Sv, M, J, jl, nm⟩ := σ; exact M_save d i3 )
  refine ⟨h2, _, z1, .int kk, .int r, ?_, e9, e10, e11⟩
  by_cases hk : kk = 0
  · subst hk
    have e8 := e8 rfl
    unfold gl at e8
    simp only [sL_law_326, sL_law_327, sL_law_328, sL_law_331, sL_law_333, sL_law_334, sL_law_337, sL_law_339, sL_law_340, sL_law_343, sL_law_345, sL_law_348, sL_law_349, sL_law_349t, sL_law_350, sL_law_352, sL_law_355, sL_law_356, sL_law_357, sL_law_358, sL_law_360, sL_law_361, sL_law_362, sL_law_365, sL_law_366, sL_law_366t, sL_law_367, bd_v, bi_v, Option.toList, List.cons_append, List.nil_append, List.length_cons, List.length_nil, Nat.reduceAdd, Nat.reduceLeDiff, ck_in, nI_add, nI_1, if_false, if_true, i1, nI_2, nI_3, al4 j1 l1, al4 j2 l1, al4 j3 l1, e1, e2, e3, e4, e5, e6, e7, ll_0, lg_eq, not_true_eq_false, not_false_eq_true, e8]
  · simp only [sL_law_326, sL_law_327, sL_law_328, sL_law_331, sL_law_333, sL_law_334, sL_law_337, sL_law_339, sL_law_340, sL_law_343, sL_law_345, sL_law_348, sL_law_349, sL_law_349t, sL_law_350, sL_law_352, sL_law_355, sL_law_356, sL_law_357, sL_law_358, sL_law_360, sL_law_361, sL_law_362, sL_law_365, sL_law_366, sL_law_366t, sL_law_367, bd_v, bi_v, Option.toList, List.cons_append, List.nil_append, List.length_cons, List.length_nil, Nat.reduceAdd, Nat.reduceLeDiff, ck_in, nI_add, nI_1, if_false, if_true, i1, nI_2, nI_3, al4 j1 l1, al4 j2 l1, al4 j3 l1, e1, e2, e3, e4, e5, e6, e7, ll_0, lg_eq, not_true_eq_false, not_false_eq_true, eq_false hk]
theorem C_crash (I : LI h b L xs x m out n σ) (hi : i + 4 ≤ L) (l1 : L ≤ 100000) (w5 w6 : Value) : CS 370 h b L xs x m out n i z w5 w6 := by
  obtain ⟨i1, i2, i3, -, ⟨f0, i5⟩, i6, i7, i8⟩ := id I
  have j1 : i + 1 < L := by omega
  have j2 : i + 2 < L := by omega
  have j3 : i + 3 < L := by omega
  obtain ⟨kk, h1, z1, r, h2, f, e1, e2, ⟨fs1, e3⟩, e4, ⟨fs2, e5⟩, e6, e7, e8, e9, e10, e11⟩ := law_and (z := z) I (W_crash i2 i3 i5 (by omega) (xs (i + 1))) k1_ne (SI_crash i3) (fun s => cl 112 [.ref m, .int (xs (i + 1))] s) (fun h1 z1 c d => by obtain ⟨S, Sv, M, J, jl, nm⟩ := σ; exact M_crash d i3 (xs (i + 1)))
  refine ⟨h2, _, z1, .int kk, .int r, ?_, e9, e10, e11⟩
  by_cases hk : kk = 0
  · subst hk
    have e8 := e8 rfl
    unfold gl at e8
    simp only [sL_law_370, sL_law_371, sL_law_372, sL_law_374, sL_law_375, sL_law_376, sL_law_377, sL_law_378, sL_law_381, sL_law_383, sL_law_384, sL_law_385, sL_law_387, sL_law_388, sL_law_389, sL_law_390, sL_law_393, sL_law_395, sL_law_396, sL_law_399, sL_law_401, sL_law_404, sL_law_405, sL_law_405t, sL_law_406, sL_law_408, sL_law_411, sL_law_412, sL_law_413, sL_law_414, sL_law_416, sL_law_417, sL_law_418, sL_law_421, sL_law_422, sL_law_422t, sL_law_423, bd_v, bi_v, Option.toList, List.cons_append, List.nil_append, List.length_cons, List.length_nil, Nat.reduceAdd, Nat.reduceLeDiff, ck_in, nI_add, nI_1, if_false, if_true, i1, nI_2, nI_3, al4 j1 l1, al4 j2 l1, al4 j3 l1, e1, e2, e3, e4, e5, e6, e7, ll_0, lg_eq, not_true_eq_false, not_false_eq_true, e8]
  · simp only [sL_law_370, sL_law_371, sL_law_372, sL_law_374, sL_law_375, sL_law_376, sL_law_377, sL_law_378, sL_law_381, sL_law_383, sL_law_384, sL_law_385, sL_law_387, sL_law_388, sL_law_389, sL_law_390, sL_law_393, sL_law_395, sL_law_396, sL_law_399, sL_law_401, sL_law_404, sL_law_405, sL_law_405t, sL_law_406, sL_law_408, sL_law_411, sL_law_412, sL_law_413, sL_law_414, sL_law_416, sL_law_417, sL_law_418, sL_law_421, sL_law_422, sL_law_422t, sL_law_423, bd_v, bi_v, Option.toList, List.cons_append, List.nil_append, List.length_cons, List.length_nil, Nat.reduceAdd, Nat.reduceLeDiff, ck_in, nI_add, nI_1, if_false, if_true, i1, nI_2, nI_3, al4 j1 l1, al4 j2 l1, al4 j3 l1, e1, e2, e3, e4, e5, e6, e7, ll_0, lg_eq, not_true_eq_false, not_false_eq_true, eq_false hk]
theorem C_byte (I : LI h b L xs x m out n σ) (hi : i + 4 ≤ L) (l1 : L ≤ 100000) (w5 w6 : Value) : CS 547 h b L xs x m out n i z w5 w6 := by
  obtain ⟨i1, i2, i3, -, ⟨f0, i5⟩, i6, i7, i8⟩ := id I
  have j1 : i + 1 < L := by omega
  have j2 : i + 2 < L := by omega
  have j3 : i + 3 < L := by omega
  obtain ⟨kk, h1, z1, r, h2, f, e1, e2, ⟨fs1, e3⟩, e4, ⟨fs2, e5⟩, e6, e7, e8, e9, e10, e11⟩ := law_and (z := z) I (W_byte i2 i3 i5 (by omega) (xs (i + 1)) (xs (i + 2))) k1_ne ((show SI n (opByte n (xs (i + 1)) (xs (i + 2)) σ).2 by rw [(op_same (n := n) (p := xs (i + 1)) (k := xs (i + 2)) (e := 0) (w := 0) (σ := σ)).2.1]; exact i3)) (fun s => cl 118 [.ref m, .int (xs (i + 1)), .int (xs (i + 2))] s) (fun h1 z1 c d => by obtain ⟨S, Sv, M, J, jl, nm⟩ := σ; exact M_byteAt d i3 (xs (i + 1)) (xs (i + 2)))
  refine ⟨h2, _, z1, .int kk, .int r, ?_, e9, e10, e11⟩
  by_cases hk : kk = 0
  · subst hk
    have e8 := e8 rfl
    unfold gl at e8
    simp only [sL_law_547, sL_law_548, sL_law_549, sL_law_551, sL_law_552, sL_law_553, sL_law_554, sL_law_555, sL_law_557, sL_law_558, sL_law_559, sL_law_560, sL_law_561, sL_law_564, sL_law_566, sL_law_567, sL_law_568, sL_law_570, sL_law_571, sL_law_572, sL_law_573, sL_law_574, sL_law_576, sL_law_577, sL_law_578, sL_law_579, sL_law_582, sL_law_584, sL_law_585, sL_law_588, sL_law_590, sL_law_593, sL_law_594, sL_law_594t, sL_law_595, sL_law_597, sL_law_600, sL_law_601, sL_law_602, sL_law_603, sL_law_605, sL_law_606, sL_law_607, sL_law_610, sL_law_611, sL_law_611t, sL_law_612, bd_v, bi_v, Option.toList, List.cons_append, List.nil_append, List.length_cons, List.length_nil, Nat.reduceAdd, Nat.reduceLeDiff, ck_in, nI_add, nI_1, if_false, if_true, i1, nI_2, nI_3, al4 j1 l1, al4 j2 l1, al4 j3 l1, e1, e2, e3, e4, e5, e6, e7, ll_0, lg_eq, not_true_eq_false, not_false_eq_true, e8]
  · simp only [sL_law_547, sL_law_548, sL_law_549, sL_law_551, sL_law_552, sL_law_553, sL_law_554, sL_law_555, sL_law_557, sL_law_558, sL_law_559, sL_law_560, sL_law_561, sL_law_564, sL_law_566, sL_law_567, sL_law_568, sL_law_570, sL_law_571, sL_law_572, sL_law_573, sL_law_574, sL_law_576, sL_law_577, sL_law_578, sL_law_579, sL_law_582, sL_law_584, sL_law_585, sL_law_588, sL_law_590, sL_law_593, sL_law_594, sL_law_594t, sL_law_595, sL_law_597, sL_law_600, sL_law_601, sL_law_602, sL_law_603, sL_law_605, sL_law_606, sL_law_607, sL_law_610, sL_law_611, sL_law_611t, sL_law_612, bd_v, bi_v, Option.toList, List.cons_append, List.nil_append, List.length_cons, List.length_nil, Nat.reduceAdd, Nat.reduceLeDiff, ck_in, nI_add, nI_1, if_false, if_true, i1, nI_2, nI_3, al4 j1 l1, al4 j2 l1, al4 j3 l1, e1, e2, e3, e4, e5, e6, e7, ll_0, lg_eq, not_true_eq_false, not_false_eq_true, eq_false hk]
theorem C_entry (I : LI h b L xs x m out n σ) (hi : i + 4 ≤ L) (l1 : L ≤ 100000) (w5 w6 : Value) : CS 615 h b L xs x m out n i z w5 w6 := by
  obtain ⟨i1, i2, i3, -, ⟨f0, i5⟩, i6, i7, i8⟩ := id I
  have j1 : i + 1 < L := by omega
  have j2 : i + 2 < L := by omega
  have j3 : i + 3 < L := by omega
  obtain ⟨kk, h1, z1, r, h2, f, e1, e2, ⟨fs1, e3⟩, e4, ⟨fs2, e5⟩, e6, e7, e8, e9, e10, e11⟩ := law_and (z := z) I (W_entry i2 i3 i5 (by omega) (xs (i + 1))) k1_ne ((show SI n (opEntry (xs (i + 1)) σ).2 by rw [(op_same (n := n) (p := 0) (k := 0) (e := xs (i + 1)) (w := 0) (σ := σ)).2.2.1]; exact i3)) (fun s => cl 119 [.ref m, .int (xs (i + 1))] s) (fun h1 z1 c d => by obtain ⟨S, Sv, M, J, jl, nm⟩ := σ; exact M_entry d i3 (xs (i + 1)))
  refine ⟨h2, _, z1, .int kk, .int r, ?_, e9, e10, e11⟩
  by_cases hk : kk = 0
  · subst hk
    have e8 := e8 rfl
    unfold gl at e8
    simp only [sL_law_615, sL_law_616, sL_law_617, sL_law_619, sL_law_620, sL_law_621, sL_law_622, sL_law_623, sL_law_626, sL_law_628, sL_law_629, sL_law_630, sL_law_632, sL_law_633, sL_law_634, sL_law_635, sL_law_638, sL_law_640, sL_law_641, sL_law_644, sL_law_646, sL_law_649, sL_law_650, sL_law_650t, sL_law_651, sL_law_653, sL_law_656, sL_law_657, sL_law_658, sL_law_659, sL_law_661, sL_law_662, sL_law_663, sL_law_666, sL_law_667, sL_law_667t, sL_law_668, bd_v, bi_v, Option.toList, List.cons_append, List.nil_append, List.length_cons, List.length_nil, Nat.reduceAdd, Nat.reduceLeDiff, ck_in, nI_add, nI_1, if_false, if_true, i1, nI_2, nI_3, al4 j1 l1, al4 j2 l1, al4 j3 l1, e1, e2, e3, e4, e5, e6, e7, ll_0, lg_eq, not_true_eq_false, not_false_eq_true, e8]
  · simp only [sL_law_615, sL_law_616, sL_law_617, sL_law_619, sL_law_620, sL_law_621, sL_law_622, sL_law_623, sL_law_626, sL_law_628, sL_law_629, sL_law_630, sL_law_632, sL_law_633, sL_law_634, sL_law_635, sL_law_638, sL_law_640, sL_law_641, sL_law_644, sL_law_646, sL_law_649, sL_law_650, sL_law_650t, sL_law_651, sL_law_653, sL_law_656, sL_law_657, sL_law_658, sL_law_659, sL_law_661, sL_law_662, sL_law_663, sL_law_666, sL_law_667, sL_law_667t, sL_law_668, bd_v, bi_v, Option.toList, List.cons_append, List.nil_append, List.length_cons, List.length_nil, Nat.reduceAdd, Nat.reduceLeDiff, ck_in, nI_add, nI_1, if_false, if_true, i1, nI_2, nI_3, al4 j1 l1, al4 j2 l1, al4 j3 l1, e1, e2, e3, e4, e5, e6, e7, ll_0, lg_eq, not_true_eq_false, not_false_eq_true, eq_false hk]
theorem C_count (I : LI h b L xs x m out n σ) (hi : i + 4 ≤ L) (l1 : L ≤ 100000) (w5 w6 : Value) : CS 671 h b L xs x m out n i z w5 w6 := by
  obtain ⟨i1, i2, i3, -, ⟨f0, i5⟩, i6, i7, i8⟩ := id I
  have j1 : i + 1 < L := by omega
  have j2 : i + 2 < L := by omega
  have j3 : i + 3 < L := by omega
  obtain ⟨kk, h1, z1, r, h2, f, e1, e2, ⟨fs1, e3⟩, e4, ⟨fs2, e5⟩, e6, e7, e8, e9, e10, e11⟩ := law_and (z := z) I (W_count i2 i3 i5 (by omega) (xs (i + 1))) k1_ne ((show SI n (opCount n (xs (i + 1)) σ).2 by rw [(op_same (n := n) (p := 0) (k := 0) (e := 0) (w := xs (i + 1)) (σ := σ)).2.2.2]; exact i3)) (fun s => cl 120 [.ref m, .int (xs (i + 1))] s) (fun h1 z1 c d => by obtain ⟨S, Sv, M, J, jl, nm⟩ := σ; exact M_count d i3 (xs (i + 1)))
  refine ⟨h2, _, z1, .int kk, .int r, ?_, e9, e10, e11⟩
  by_cases hk : kk = 0
  · subst hk
    have e8 := e8 rfl
    unfold gl at e8
    simp only [sL_law_671, sL_law_672, sL_law_673, sL_law_675, sL_law_676, sL_law_677, sL_law_678, sL_law_679, sL_law_682, sL_law_684, sL_law_685, sL_law_686, sL_law_688, sL_law_689, sL_law_690, sL_law_691, sL_law_694, sL_law_696, sL_law_697, sL_law_700, sL_law_702, sL_law_705, sL_law_706, sL_law_706t, sL_law_707, sL_law_709, sL_law_712, sL_law_713, sL_law_714, sL_law_715, sL_law_717, sL_law_718, sL_law_719, sL_law_722, sL_law_723, sL_law_723t, sL_law_724, bd_v, bi_v, Option.toList, List.cons_append, List.nil_append, List.length_cons, List.length_nil, Nat.reduceAdd, Nat.reduceLeDiff, ck_in, nI_add, nI_1, if_false, if_true, i1, nI_2, nI_3, al4 j1 l1, al4 j2 l1, al4 j3 l1, e1, e2, e3, e4, e5, e6, e7, ll_0, lg_eq, not_true_eq_false, not_false_eq_true, e8]
  · simp only [sL_law_671, sL_law_672, sL_law_673, sL_law_675, sL_law_676, sL_law_677, sL_law_678, sL_law_679, sL_law_682, sL_law_684, sL_law_685, sL_law_686, sL_law_688, sL_law_689, sL_law_690, sL_law_691, sL_law_694, sL_law_696, sL_law_697, sL_law_700, sL_law_702, sL_law_705, sL_law_706, sL_law_706t, sL_law_707, sL_law_709, sL_law_712, sL_law_713, sL_law_714, sL_law_715, sL_law_717, sL_law_718, sL_law_719, sL_law_722, sL_law_723, sL_law_723t, sL_law_724, bd_v, bi_v, Option.toList, List.cons_append, List.nil_append, List.length_cons, List.length_nil, Nat.reduceAdd, Nat.reduceLeDiff, ck_in, nI_add, nI_1, if_false, if_true, i1, nI_2, nI_3, al4 j1 l1, al4 j2 l1, al4 j3 l1, e1, e2, e3, e4, e5, e6, e7, ll_0, lg_eq, not_true_eq_false, not_false_eq_true, eq_false hk]
theorem C_poke (I : LI h b L xs x m out n σ) (hi : i + 4 ≤ L) (l1 : L ≤ 100000) (w5 w6 : Value) : CS 426 h b L xs x m out n i z w5 w6 := by
  obtain ⟨i1, i2, i3, -, ⟨f0, i5⟩, i6, i7, i8⟩ := id I
  have j1 : i + 1 < L := by omega
  have j2 : i + 2 < L := by omega
  have j3 : i + 3 < L := by omega
  obtain ⟨kk, h1, z1, h2, e1, e2, ⟨fs1, e3⟩, e4, ⟨fs2, e5⟩, e6, e9, e10, e11⟩ := law_andv (z := z) I (W_poke i2 i3 (xs (i + 1)) (xs (i + 2)) (xs (i + 3))) (SI_poke i3) (fun s => cl 114 [.ref m, .int (xs (i + 1)), .int (xs (i + 2)), .int (xs (i + 3))] s) (fun h1 z1 c d => by obtain ⟨S, Sv, M, J, jl, nm⟩ := σ; exact M_poke d i3 (xs (i + 1)) (xs (i + 2)) (xs (i + 3)))
  refine ⟨h2, _, z1, .int kk, w6, ?_, e9, e10, e11⟩
  simp only [sL_law_426, sL_law_427, sL_law_428, sL_law_430, sL_law_431, sL_law_432, sL_law_433, sL_law_434, sL_law_436, sL_law_437, sL_law_438, sL_law_439, sL_law_440, sL_law_442, sL_law_443, sL_law_444, sL_law_445, sL_law_448, sL_law_450, sL_law_451, sL_law_452, sL_law_454, sL_law_455, sL_law_456, sL_law_457, sL_law_458, sL_law_460, sL_law_461, sL_law_462, sL_law_463, sL_law_464, sL_law_466, sL_law_467, sL_law_468, sL_law_469, sL_law_472, sL_law_473, sL_law_476, sL_law_478, sL_law_481, sL_law_482, sL_law_482t, sL_law_483, bd_v, bi_v, Option.toList, List.cons_append, List.nil_append, List.length_cons, List.length_nil, Nat.reduceAdd, Nat.reduceLeDiff, ck_in, nI_add, nI_1, if_false, if_true, i1, nI_2, nI_3, al4 j1 l1, al4 j2 l1, al4 j3 l1, e1, e2, e3, e4, e5, e6]
theorem C_pokeJ (I : LI h b L xs x m out n σ) (hi : i + 4 ≤ L) (l1 : L ≤ 100000) (w5 w6 : Value) : CS 486 h b L xs x m out n i z w5 w6 := by
  obtain ⟨i1, i2, i3, -, ⟨f0, i5⟩, i6, i7, i8⟩ := id I
  have j1 : i + 1 < L := by omega
  have j2 : i + 2 < L := by omega
  have j3 : i + 3 < L := by omega
  obtain ⟨kk, h1, z1, h2, e1, e2, ⟨fs1, e3⟩, e4, ⟨fs2, e5⟩, e6, e9, e10, e11⟩ := law_andv (z := z) I (W_pokeJ i2 (xs (i + 1)) (xs (i + 2))) (SI_pokeJ i3) (fun s => cl 115 [.ref m, .int (xs (i + 1)), .int (xs (i + 2))] s) (fun h1 z1 c d => by obtain ⟨S, Sv, M, J, jl, nm⟩ := σ; exact M_pokeJ d (xs (i + 1)) (xs (i + 2)))
  refine ⟨h2, _, z1, .int kk, w6, ?_, e9, e10, e11⟩
  simp only [sL_law_486, sL_law_487, sL_law_488, sL_law_490, sL_law_491, sL_law_492, sL_law_493, sL_law_494, sL_law_496, sL_law_497, sL_law_498, sL_law_499, sL_law_502, sL_law_504, sL_law_505, sL_law_506, sL_law_508, sL_law_509, sL_law_510, sL_law_511, sL_law_512, sL_law_514, sL_law_515, sL_law_516, sL_law_517, sL_law_520, sL_law_521, sL_law_524, sL_law_526, sL_law_529, sL_law_530, sL_law_530t, sL_law_531, bd_v, bi_v, Option.toList, List.cons_append, List.nil_append, List.length_cons, List.length_nil, Nat.reduceAdd, Nat.reduceLeDiff, ck_in, nI_add, nI_1, if_false, if_true, i1, nI_2, nI_3, al4 j1 l1, al4 j2 l1, al4 j3 l1, e1, e2, e3, e4, e5, e6]
theorem C_bad (I : LI h b L xs x m out n σ) (w5 w6 : Value) : CS 534 h b L xs x m out n i z w5 w6 := by
  obtain ⟨i1, i2, i3, ⟨c, i4⟩, ⟨f0, i5⟩, i6, i7, i8⟩ := id I
  obtain ⟨S, Sv, M, J, jl, nm⟩ := σ
  obtain ⟨h1, e1, c1, fr⟩ := F_badAt (z := z) i2 i3
  have d1 := i4.fr (h' := h1) (fun a a1 a2 => fr a (Or.inr (by omega)))
  obtain ⟨r, h2, c2, x1, x2, x3, x4⟩ := M_badAt (z := z) d1 i3
  have g2 : ∀ a, (a < m ∨ m + 17 ≤ a) → h2 a = h1 a := fun a ha => x2.out ha
  have x3 := (x3 _ rfl).2
  have c0 := i2.1
  obtain ⟨fs, o1⟩ := d1.obj
  have e1 : cl 76 [.ref x] (h, z) = some (.inl (some (.int (badG (mskd S M) n n))), (h1, z)) := e1
  refine ⟨h2, (S, Sv, M, J, jl, nm), z, w5, w6, ?_, ⟨(g2 b (by omega)).trans ((fr b (Or.inl i6)).trans i1), c1.fr (fun a a1 a2 => g2 a (by omega)), i3, ⟨c2, x2.fr (fun a _ _ => rfl)⟩, ⟨f0, (g2 out (by omega)).trans ((fr out (Or.inr (by omega))).trans i5)⟩, i6, i7, i8⟩, Nat.le_succ _, Nat.le_add_right _ _⟩
  subst x3
  simp only [sL_law_534, sL_law_535, sL_law_538, sL_law_539, sL_law_542, sL_law_545, sL_law_546, sL_law_546t, bd_v, bi_v, Option.toList, List.cons_append, List.nil_append, List.length_cons, List.length_nil, Nat.reduceAdd, Nat.reduceLeDiff, ck_in, nI_add, nI_1, if_false, if_true, c0, e1, o1, x1]
end
