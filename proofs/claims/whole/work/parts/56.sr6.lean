/-! the reference: a split is the shelf's -/
def sN (g : Nat → Nat) : Nat → Nat
  | 0 => 0
  | n + 1 => sN g n + g n
theorem cnt_sN (S : Sh) : ∀ n, cnt S n = sN (fun i => (S.rec i).length) n
  | 0 => rfl
  | n + 1 => by rw [cnt, sN, cnt_sN S n]
theorem sN_congr {g g' : Nat → Nat} : ∀ n, (∀ i, i < n → g i = g' i) → sN g n = sN g' n
  | 0, _ => rfl
  | n + 1, h => by rw [sN, sN, sN_congr n (fun i hi => h i (by omega)), h n (by omega)]
theorem sN_upd {g : Nat → Nat} {p v : Nat} : ∀ n, p < n → sN (updN g p v) n + g p = sN g n + v
  | 0, h => by omega
  | n + 1, h => by
    rw [sN, sN]
    by_cases e : p = n
    · subst e
      rw [sN_congr (g := updN g p v) (g' := g) p (fun i hi => by unfold updN; rw [if_neg (by omega)])]
      have : updN g p v p = v := by unfold updN; rw [if_pos rfl]
      omega
    · have h1 := sN_upd (g := g) (p := p) (v := v) n (by omega)
      have : updN g p v n = g n := by unfold updN; rw [if_neg (by omega)]
      omega
theorem len_filter (q : Rc → Bool) : ∀ l : List Rc, (l.filter (fun x => !q x)).length + (l.filter q).length = l.length
  | [] => rfl
  | x :: t => by
    have := len_filter q t
    cases h : q x <;> simp [h] <;> omega
theorem cnt_split {n : Nat} {S : Sh} (w : WF n S) {p : Nat} (hp : p < S.used) (hu : S.used < n) : cnt (S.split p) n = cnt S n := by
  rw [cnt_sN, cnt_sN]
  have h1 := sN_upd (g := fun i => (S.rec i).length) (p := p) (v := ((S.rec p).filter (fun x => !hbt (S.dep p) x)).length) n (by omega)
  have h2 := sN_upd (g := updN (fun i => (S.rec i).length) p ((S.rec p).filter (fun x => !hbt (S.dep p) x)).length) (p := S.used) (v := ((S.rec p).filter (hbt (S.dep p))).length) n hu
  have h3 := len_filter (hbt (S.dep p)) (S.rec p)
  have h4 : updN (fun i => (S.rec i).length) p ((S.rec p).filter (fun x => !hbt (S.dep p) x)).length S.used = 0 := by
    unfold updN
    rw [if_neg (by omega)]
    show (S.rec S.used).length = 0
    rw [(w.2.2.2.2.2.2.2.2.2.2.2 S.used (Nat.le_refl _)).1]
    rfl
  have h5 : sN (fun i => ((S.split p).rec i).length) n = sN (updN (updN (fun i => (S.rec i).length) p ((S.rec p).filter (fun x => !hbt (S.dep p) x)).length) S.used ((S.rec p).filter (hbt (S.dep p))).length) n := sN_congr n (fun i hi => by
    by_cases e1 : i = S.used
    · subst e1
      show ((S.split p).rec S.used).length = _
      rw [rcs_u]; unfold updN; rw [if_pos rfl]
    · by_cases e2 : i = p
      · subst e2
        show ((S.split i).rec i).length = _
        rw [rcs_p (by omega)]; unfold updN; rw [if_neg e1, if_pos rfl]
      · show ((S.split p).rec i).length = _
        rw [rcs_o e2 e1]; unfold updN; rw [if_neg e1, if_neg e2])
  omega
section
variable {h0 : Nat → Option va_E} {z : Nat × Nat × Nat} {m n jl fd : Nat} {c : Int32} {aN aS aB aU aH aD aX aM aW aI aT aA aK aL aF aP : Nat → Int32} {S : Sh} {N : Nat} {T : Nat → List Int32} {V : Nat → Int32} {W : Nat → List Nat} {iA : Int32} {p : Nat}
theorem X_splits_A (w : WF n S) (r0 : R0 n S N T V W aS aB aU aH aD aX aM aW aT (aI 0) iA) (hpu : p < S.used) (h5 : ¬ (S.dep p = 5 ∧ S.D = 5)) : ∃ aT' aI' : Nat → Int32, cl 107 [.ref m, .int (nI p)] ((hp h0 m c n jl fd aN aS aB aU aH aD aX aM aW aI aT aA aK aL aF aP), z) = rn 107 67 [.ref m, .int (nI p), .int (nI (S.dep p)), .int (nI 0), am_jk, am_jk, am_jk] [] ((hp h0 m c n jl fd aN aS aB aU aH aD aX aM aW (aI') (aT') aA aK aL aF aP), z) ∧
    (∀ e, e < 2 ^ D1 S p → aT' e = nI (tb1 S p e)) ∧ aI' 0 = nI (D1 S p) ∧ (∀ j, 32 ≤ j → aT' j = aT j) ∧ (∀ j, 1 ≤ j → aI' j = aI j) := by
  have hun : S.used ≤ n := w.2.1
  have hn : n ≤ 40 := w.2.2.2.1
  have hD5 : S.D ≤ 5 := w.1
  have hdD : S.dep p ≤ S.D := w.2.2.2.2.2.2.1 p
  have b1 := (r0.2.2.1 p (by omega)).1
  have b2 := r0.1.1
  have i1 : p < 120 := by omega
  by_cases e : S.dep p = S.D
  · have hp32 : 2 ^ (S.dep p + 1) ≤ 32 := pow32 (by omega)
    rw [Nat.pow_succ] at hp32
    refine ⟨_, _, splits_A1 i1 (by omega) b1 (by rw [b2, e]), fun k hk => ?_, ?_, fun j hj => cpy_out (by omega), fun j hj => upd_n (by omega)⟩
    · unfold D1 at hk
      rw [if_pos e, Nat.pow_succ] at hk
      unfold tb1
      rw [if_pos e]
      unfold dbl
      rw [e]
      by_cases h4 : 2 ^ S.D ≤ k ∧ k < 2 ^ S.D + 2 ^ S.D
      · rw [if_pos h4, cpy_in h4.1 h4.2, r0.2.2.2.1 _ (by omega), Nat.zero_add]
      · rw [if_neg h4, cpy_out (by omega), r0.2.2.2.1 _ (by omega)]
    · rw [upd_s]; unfold D1; rw [if_pos e, e]
  · refine ⟨aT, aI, splits_A2 i1 (by omega) (by omega) e b1 b2, fun k hk => ?_, ?_, fun _ _ => rfl, fun _ _ => rfl⟩
    · unfold D1 at hk
      rw [if_neg e] at hk
      unfold tb1
      rw [if_neg e]
      exact r0.2.2.2.1 k hk
    · unfold D1; rw [if_neg e]; exact b2
theorem X_splits_no (w : WF n S) (r0 : R0 n S N T V W aS aB aU aH aD aX aM aW aT (aI 0) iA) (hpu : p < S.used) (hno : ¬ (S.dep p < 5 ∧ S.used < n)) : ∃ aT' aI' : Nat → Int32, cl 107 [.ref m, .int (nI p)] ((hp h0 m c n jl fd aN aS aB aU aH aD aX aM aW aI aT aA aK aL aF aP), z) = some (.inl (some (.int 0)), ((hp h0 m c n jl fd aN aS aB aU aH aD aX aM aW (aI') (aT') aA aK aL aF aP), z)) ∧ (∀ j, 32 ≤ j → aT' j = aT j) ∧ (∀ j, 1 ≤ j → aI' j = aI j) := by
  have hun : S.used ≤ n := w.2.1
  have hn : n ≤ 40 := w.2.2.2.1
  have hD5 : S.D ≤ 5 := w.1
  have hdD : S.dep p ≤ S.D := w.2.2.2.2.2.2.1 p
  have b1 := (r0.2.2.1 p (by omega)).1
  have b2 := r0.1.1
  by_cases h5 : S.dep p = 5 ∧ S.D = 5
  · rw [h5.1] at b1
    rw [h5.2] at b2
    exact ⟨aT, aI, splits_5 (by omega) b1 b2, fun _ _ => rfl, fun _ _ => rfl⟩
  · obtain ⟨aT', aI', y1, y2, y3, y4, y5⟩ := X_splits_A (h0 := h0) (z := z) (m := m) (jl := jl) (fd := fd) (c := c) (aN := aN) (aA := aA) (aK := aK) (aL := aL) (aF := aF) (aP := aP) w r0 hpu h5
    refine ⟨aT', aI', ?_, y4, y5⟩
    have hu : S.used = n := by omega
    rw [y1, splits_B hn hun (fun q hq => (r0.2.2.1 q hq).2.1) _ _ _ _ _ S.used 0 (by omega), hu]
    exact splits_full hn [] _ _ _ _ _
theorem X_splits_yes (w : WF n S) (r0 : R0 n S N T V W aS aB aU aH aD aX aM aW aT (aI 0) iA) (hpu : p < S.used) (hd5 : S.dep p < 5) (hu : S.used < n) :
    ∃ (aD' aX' aM' aW' aT' aI' : Nat → Int32) (W' : Nat → List Nat), cl 107 [.ref m, .int (nI p)] ((hp h0 m c n jl fd aN aS aB aU aH aD aX aM aW aI aT aA aK aL aF aP), z) = some (.inl (some (.int 1)), ((hp h0 m c n jl fd aN aS aB aU aH (aD') (aX') (aM') (aW') (aI') (aT') aA aK aL aF aP), z)) ∧ R0 n (S.split p) N T V W' aS aB aU aH aD' aX' aM' aW' aT' (aI' 0) iA ∧
      (∀ j, 40 ≤ j → aD' j = aD j ∧ aX' j = aX j ∧ aM' j = aM j) ∧ (∀ j, 400 ≤ j → aW' j = aW j) ∧ (∀ j, 32 ≤ j → aT' j = aT j) ∧ (∀ j, 1 ≤ j → aI' j = aI j) := by
  have hun : S.used ≤ n := w.2.1
  have hn : n ≤ 40 := w.2.2.2.1
  have hD5 : S.D ≤ 5 := w.1
  have hdD : S.dep p ≤ S.D := w.2.2.2.2.2.2.1 p
  have hpn : p < n := by omega
  have hpu' : p ≠ S.used := by omega
  have hNN := r0.n360 w
  obtain ⟨b1, b2, b3, b4, b5, b6⟩ := r0.2.2.1 p hpn
  have hD1 : D1 S p ≤ 5 := by
    unfold D1
    by_cases h1 : S.dep p = S.D
    · rw [if_pos h1]; omega
    · rw [if_neg h1]; exact hD5
  obtain ⟨aT1, aI1, y1, y2, y3, y4, y5⟩ := X_splits_A (h0 := h0) (z := z) (m := m) (jl := jl) (fd := fd) (c := c) (aN := aN) (aA := aA) (aK := aK) (aL := aL) (aF := aF) (aP := aP) w r0 hpu (by omega)
  have L9 := r0.W9 w hpn
  obtain ⟨aW2, aM2, w6, k1, k2, k3, k4, k5, k6⟩ := splits_D (h0 := h0) (z := z) (m := m) (n := n) (jl := jl) (fd := fd) (c := c) (aN := aN) (aS := aS) (aB := aB) (aU := aU) (aH := aH) (aD := upd (upd aD p (nI (S.dep p + 1))) S.used (nI (S.dep p + 1))) (aX := upd aX S.used 1) (aI := aI1) (aT := aT1) (aA := aA) (aK := aK) (aL := aL) (aF := aF) (aP := aP) (p := p) (u := S.used) (d := S.dep p) (T := T) (V := V) hn hpn hu hpu' (by omega) L9 (fun x hx => ⟨by have := b6 x hx; omega, (r0.2.1 x (b6 x hx)).2.2.2.1⟩) (W p) [] aW (upd aM S.used (nI 0)) am_jk rfl (by rw [upd_n hpu']; exact b3) (by rw [upd_s]; rfl) (fun i hi => by cases hi) (fun i hi => by cases hi) (fun i _ hi => b4 i hi)
  have eE := splits_E (h0 := h0) (z := z) (m := m) (n := n) (jl := jl) (fd := fd) (c := c) (aN := aN) (aS := aS) (aB := aB) (aU := aU) (aH := aH) (aD := upd (upd aD p (nI (S.dep p + 1))) S.used (nI (S.dep p + 1))) (aX := upd aX S.used 1) (aM := upd aM2 p (nI ((W p).filter (fun j => !hbt (S.dep p) (T j, V j))).length)) (aW := aW2) (aI := aI1) (aT := aT1) (aA := aA) (aK := aK) (aL := aL) (aF := aF) (aP := aP) (p := p) (u := S.used) (d := S.dep p) hn hD1 y3 (by omega) (.int (nI ((W p).filter (fun j => !hbt (S.dep p) (T j, V j))).length)) w6 (2 ^ D1 S p) 0 (by omega)
  rw [show rdr aT1 p S.used (S.dep p) 0 = aT1 by funext j; unfold rdr; rw [if_neg (by omega)]] at eE
  refine ⟨upd (upd aD p (nI (S.dep p + 1))) S.used (nI (S.dep p + 1)), upd aX S.used 1, upd aM2 p (nI ((W p).filter (fun j => !hbt (S.dep p) (T j, V j))).length), aW2, rdr aT1 p S.used (S.dep p) (2 ^ D1 S p), aI1, fun q => if q = S.used then (W p).filter (fun j => hbt (S.dep p) (T j, V j)) else if q = p then (W p).filter (fun j => !hbt (S.dep p) (T j, V j)) else W q, ?_, ?_, ?_, ?_, ?_, y5⟩
  · rw [y1, splits_B hn hun (fun q hq => (r0.2.2.1 q hq).2.1) _ _ _ _ _ S.used 0 (by omega), splits_C hn hu (by omega)]
    refine k1.trans ?_
    have i1 : p < 120 := by omega
    rw [sX7_splits_232]
    simp only [sX7_splits_0, sX7_splits_1, sX7_splits_4, sX7_splits_5, sX7_splits_6, sX7_splits_7, sX7_splits_8, sX7_splits_9, sX7_splits_12, sX7_splits_13, sX7_splits_14, sX7_splits_17, sX7_splits_18, sX7_splits_19, sX7_splits_22, sX7_splits_23, sX7_splits_23t, sX7_splits_24, sX7_splits_25, sX7_splits_27, sX7_splits_28, sX7_splits_29, sX7_splits_30, sX7_splits_33, sX7_splits_34, sX7_splits_37, sX7_splits_38, sX7_splits_39, sX7_splits_40, sX7_splits_41, sX7_splits_42, sX7_splits_43, sX7_splits_46, sX7_splits_47, sX7_splits_48, sX7_splits_49, sX7_splits_52, sX7_splits_55, sX7_splits_56, sX7_splits_59, sX7_splits_60, sX7_splits_61, sX7_splits_62, sX7_splits_63, sX7_splits_64, sX7_splits_65, sX7_splits_66, sX7_splits_68, sX7_splits_69, sX7_splits_72, sX7_splits_75, sX7_splits_76, sX7_splits_79, sX7_splits_80, sX7_splits_81, sX7_splits_84, sX7_splits_87, sX7_splits_90, sX7_splits_91, sX7_splits_92, sX7_splits_95, sX7_splits_98, sX7_splits_99, sX7_splits_99t, sX7_splits_100, sX7_splits_101, sX7_splits_104, sX7_splits_105, sX7_splits_106, sX7_splits_107, sX7_splits_108, sX7_splits_111, sX7_splits_112, sX7_splits_113, sX7_splits_114, sX7_splits_115, sX7_splits_116, sX7_splits_117, sX7_splits_120, sX7_splits_121, sX7_splits_122, sX7_splits_123, sX7_splits_124, sX7_splits_125, sX7_splits_126, sX7_splits_128, sX7_splits_129, sX7_splits_132, sX7_splits_133, sX7_splits_134, sX7_splits_135, sX7_splits_136, sX7_splits_140, sX7_splits_141, sX7_splits_144, sX7_splits_145, sX7_splits_146, sX7_splits_149, sX7_splits_150, sX7_splits_153, sX7_splits_155, sX7_splits_156, sX7_splits_157, sX7_splits_159, sX7_splits_160, sX7_splits_161, sX7_splits_163, sX7_splits_164, sX7_splits_167, sX7_splits_169, sX7_splits_170, sX7_splits_171, sX7_splits_172, sX7_splits_173, sX7_splits_174, sX7_splits_175, sX7_splits_178, sX7_splits_179, sX7_splits_182, sX7_splits_184, sX7_splits_185, sX7_splits_186, sX7_splits_187, sX7_splits_190, sX7_splits_191, sX7_splits_192, sX7_splits_193, sX7_splits_195, sX7_splits_196, sX7_splits_197, sX7_splits_200, sX7_splits_201, sX7_splits_202, sX7_splits_203, sX7_splits_204, sX7_splits_205, sX7_splits_206, sX7_splits_209, sX7_splits_210, sX7_splits_213, sX7_splits_215, sX7_splits_216, sX7_splits_217, sX7_splits_219, sX7_splits_220, sX7_splits_222, sX7_splits_223, sX7_splits_226, sX7_splits_229, sX7_splits_232, sX7_splits_233, sX7_splits_236, sX7_splits_237, sX7_splits_239, sX7_splits_240, sX7_splits_241, sX7_splits_245, sX7_splits_246, sX7_splits_247, sX7_splits_250, sX7_splits_251, sX7_splits_252, sX7_splits_253, sX7_splits_256, sX7_splits_257, sX7_splits_260, sX7_splits_262, sX7_splits_263, sX7_splits_264, sX7_splits_267, sX7_splits_269, sX7_splits_270, sX7_splits_271, sX7_splits_272, sX7_splits_273, sX7_splits_274, sX7_splits_277, sX7_splits_278, sX7_splits_281, sX7_splits_283, sX7_splits_284, sX7_splits_285, sX7_splits_288, sX7_splits_291, sX7_splits_292, sX7_splits_292t, hp_o, hp_1, hp_2, hp_3, hp_4, hp_5, hp_6, hp_7, hp_8, hp_9, hp_10, hp_11, hp_12, hp_13, hp_14, hp_15, hp_16, wp_o, wp_j, wp_f, wp_1, wp_2, wp_3, wp_4, wp_5, wp_6, wp_7, wp_8, wp_9, wp_10, wp_11, wp_12, wp_13, wp_14, wp_15, wp_16, gf_0, pf_0, gf_1, pf_1, gf_2, pf_2, gf_3, pf_3, gf_4, pf_4, gf_5, pf_5, gf_6, pf_6, gf_7, pf_7, gf_8, pf_8, gf_9, pf_9, gf_10, pf_10, gf_11, pf_11, gf_12, pf_12, gf_13, pf_13, gf_14, pf_14, gf_15, pf_15, gf_16, pf_16, gf_17, pf_17, gf_18, pf_18, gf_19, pf_19, List.set_cons_zero, List.set_cons_succ, al_0, as_0, cl0, m8, m10, m12, m32, m40, m64, m400, m4800, as_in i1 (show 120 ≤ 100000 by omega), cl_nI (show p < 100001 by omega)]
    exact eE
  · have hfm : ∀ q : Rc → Bool, ((W p).map (fun j => (T j, V j))).filter q = ((W p).filter (fun j => q (T j, V j))).map (fun j => (T j, V j)) := fun q => by rw [List.filter_map]; rfl
    have hWu : W S.used = [] := by
      have h1 := (r0.2.2.1 S.used hu).2.2.2.2.1
      rw [(w.2.2.2.2.2.2.2.2.2.2.2 S.used (Nat.le_refl _)).1] at h1
      exact List.map_eq_nil_iff.mp h1.symm
    refine ⟨⟨y3, r0.1.2⟩, r0.2.1, fun q hq => ?_, fun e he => ?_, fun j hj => ?_, r0.2.2.2.2.2.1, by rw [cnt_split w hpu hu]; exact r0.2.2.2.2.2.2⟩
    · dsimp only
      obtain ⟨g1, g2, g3, g4, g5, g6⟩ := r0.2.2.1 q hq
      by_cases e1 : q = S.used
      · subst e1
        rw [if_pos rfl]
        refine ⟨by rw [upd_s, dep_u], by rw [upd_s, if_pos (show S.used < (S.split p).used from Nat.lt_succ_self _)], by rw [upd_n (Ne.symm hpu'), k2], k5, ?_, fun j hj => b6 j (List.mem_filter.mp hj).1⟩
        rw [rcs_u, b5, hfm]
      · by_cases e2 : q = p
        · subst e2
          rw [if_neg e1, if_pos rfl]
          refine ⟨by rw [upd_n e1, upd_s, dep_p hpu'], by rw [upd_n e1, b2, if_pos hpu, if_pos (show q < (S.split q).used from (show q < S.used + 1 by omega))], by rw [upd_s], k4, ?_, fun j hj => b6 j (List.mem_filter.mp hj).1⟩
          rw [rcs_p hpu', b5, hfm]
        · rw [if_neg e1, if_neg e2]
          have L9q := r0.W9 w hq
          refine ⟨by rw [upd_n e1, upd_n e2, dep_o e2 e1]; exact g1, ?_, by rw [upd_n e2, k3 q e1, upd_n e1]; exact g3, fun r hr => by rw [k6 _ (by omega) (by omega)]; exact g4 r hr, by rw [rcs_o e2 e1]; exact g5, g6⟩
          rw [upd_n e1, g2]
          by_cases e3 : q < S.used
          · rw [if_pos e3, if_pos (show q < (S.split p).used from (show q < S.used + 1 by omega))]
          · rw [if_neg e3, if_neg (show ¬ q < (S.split p).used from (show ¬ q < S.used + 1 by omega))]
    · have he : e < 2 ^ D1 S p := he
      have h5 := y2 e he
      obtain ⟨e0, z1, z2, -⟩ := tb1_lt w p e he
      have z3 : S.tab e0 < S.used := w.2.2.2.2.1 e0 z1
      show rdr aT1 p S.used (S.dep p) (2 ^ D1 S p) e = nI (if tb1 S p e = p ∧ e / 2 ^ S.dep p % 2 = 1 then S.used else tb1 S p e)
      unfold rdr
      rw [h5]
      have h6 : nI (tb1 S p e) = nI p ↔ tb1 S p e = p := nI_eq (by omega) (by omega)
      by_cases h7 : tb1 S p e = p ∧ e / 2 ^ S.dep p % 2 = 1
      · rw [if_pos h7, if_pos ⟨he, h6.mpr h7.1, h7.2⟩]
      · rw [if_neg h7, if_neg (fun x => h7 ⟨h6.mp x.2.1, x.2.2⟩)]
    · obtain ⟨q, hq, hjq⟩ := r0.2.2.2.2.1 j hj
      by_cases e2 : q = p
      · subst e2
        cases hb : hbt (S.dep q) (T j, V j) with
        | true => exact ⟨S.used, hu, by dsimp only; rw [if_pos rfl]; exact List.mem_filter.mpr ⟨hjq, hb⟩⟩
        | false => exact ⟨q, hq, by dsimp only; rw [if_neg hpu', if_pos rfl]; exact List.mem_filter.mpr ⟨hjq, by simp [hb]⟩⟩
      · have e1 : q ≠ S.used := fun e => by rw [e, hWu] at hjq; cases hjq
        exact ⟨q, hq, by dsimp only; rw [if_neg e1, if_neg e2]; exact hjq⟩
  · intro j hj
    exact ⟨by rw [upd_n (by omega), upd_n (by omega)], upd_n (by omega), by rw [upd_n (by omega), k3 j (by omega), upd_n (by omega)]⟩
  · intro j hj
    exact k6 j (by omega) (by omega)
  · intro j hj
    have := pow32 hD1
    unfold rdr
    rw [if_neg (by omega)]
    exact y4 j hj
end
