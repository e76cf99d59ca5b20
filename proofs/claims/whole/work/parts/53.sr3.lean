/-! the reference and the shelf -/
def sl (L k : Nat) (a : Nat → Int32) : Nat → Int32 := fun j => a (L * k + j)
theorem sl_0 {L : Nat} {a : Nat → Int32} : sl L 0 a = a := by
  funext j
  show a (L * 0 + j) = a j
  rw [Nat.mul_zero, Nat.zero_add]
def R0 (n : Nat) (S : Sh) (N : Nat) (T : Nat → List Int32) (V : Nat → Int32) (W : Nat → List Nat) (aS aB aU aH aD aX aM aW aT : Nat → Int32) (iD iA : Int32) : Prop :=
  (iD = nI S.D ∧ iA = nI S.acts) ∧
  (∀ j, j < N → aS j = nI (T j).length ∧ (∀ i, i < (T j).length → aB (12 * j + i) = (T j).getD i 0) ∧ aU j = V j ∧ aH j = hsh (T j) ∧ 1 ≤ (T j).length ∧ (T j).length ≤ 12) ∧
  (∀ p, p < n → aD p = nI (S.dep p) ∧ aX p = (if p < S.used then 1 else 0) ∧ aM p = nI (W p).length ∧ (∀ r, r < (W p).length → aW (10 * p + r) = nI ((W p).getD r 0)) ∧ S.rec p = (W p).map (fun j => (T j, V j)) ∧ (∀ j, j ∈ W p → j < N)) ∧
  (∀ e, e < 2 ^ S.D → aT e = nI (S.tab e)) ∧ (∀ j, j < N → ∃ p, p < n ∧ j ∈ W p) ∧ (∀ i j, i < N → j < N → T i = T j → i = j) ∧ N = cnt S n
def Rl (k n : Nat) (S : Sh) (aN aS aB aU aH aD aX aM aW aI aT aA : Nat → Int32) : Prop := ∃ (N : Nat) (T : Nat → List Int32) (V : Nat → Int32) (W : Nat → List Nat), aN k = nI N ∧ R0 n S N T V W (sl 400 k aS) (sl 4800 k aB) (sl 400 k aU) (sl 400 k aH) (sl 40 k aD) (sl 40 k aX) (sl 40 k aM) (sl 400 k aW) (sl 32 k aT) (aI k) (aA k)
theorem tsz6 : ∀ rs : List Rc, (∀ x ∈ rs, 1 ≤ x.1.length) → 6 * rs.length ≤ tsz rs
  | [], _ => Nat.le_refl 0
  | x :: t, h => by
    have h1 := tsz6 t (fun y hy => h y (List.mem_cons_of_mem _ hy))
    have h2 := h x List.mem_cons_self
    rw [tsz, List.length_cons]
    unfold rsz
    omega
theorem rec9 {n : Nat} {S : Sh} (w : WF n S) (p : Nat) : (S.rec p).length ≤ 9 := by
  have h1 := tsz6 (S.rec p) (fun x hx => (w.2.2.2.2.2.2.2.2.2.2.1 p x hx).1)
  have h2 : 2 + tsz (S.rec p) ≤ 60 := w.2.2.2.2.2.1 p
  omega
theorem cnt_le {n : Nat} {S : Sh} (w : WF n S) : ∀ k, cnt S k ≤ 9 * k
  | 0 => Nat.le_refl 0
  | k + 1 => by
    have h1 := cnt_le w k
    have h2 := rec9 w k
    rw [cnt]
    omega
section
variable {n : Nat} {S : Sh} {N : Nat} {T : Nat → List Int32} {V : Nat → Int32} {W : Nat → List Nat} {aS aB aU aH aD aX aM aW aT aS' aB' aU' aH' aD' aX' aM' aW' aT' : Nat → Int32} {iD iA : Int32}
theorem R0.n360 (r : R0 n S N T V W aS aB aU aH aD aX aM aW aT iD iA) (w : WF n S) : N ≤ 360 := by
  have h1 := cnt_le w n
  have h2 : n ≤ 40 := w.2.2.2.1
  have h3 := r.2.2.2.2.2.2
  omega
theorem R0.W9 (r : R0 n S N T V W aS aB aU aH aD aX aM aW aT iD iA) (w : WF n S) {p : Nat} (hp : p < n) : (W p).length ≤ 9 := by
  have h1 := rec9 w p
  rw [(r.2.2.1 p hp).2.2.2.2.1, List.length_map] at h1
  exact h1
theorem R0.congr (r : R0 n S N T V W aS aB aU aH aD aX aM aW aT iD iA) (w : WF n S) (e1 : ∀ j, j < 400 → aS' j = aS j) (e2 : ∀ j, j < 4800 → aB' j = aB j) (e3 : ∀ j, j < 400 → aU' j = aU j) (e4 : ∀ j, j < 400 → aH' j = aH j) (e5 : ∀ j, j < 40 → aD' j = aD j) (e6 : ∀ j, j < n → aX' j = aX j) (e7 : ∀ j, j < 40 → aM' j = aM j) (e8 : ∀ j, j < 400 → aW' j = aW j) (e9 : ∀ j, j < 32 → aT' j = aT j) : R0 n S N T V W aS' aB' aU' aH' aD' aX' aM' aW' aT' iD iA := by
  have hN := r.n360 w
  have hn : n ≤ 40 := w.2.2.2.1
  have h32 := pow32 w.1
  refine ⟨r.1, fun j hj => ?_, fun p hp => ?_, fun e he => ?_, r.2.2.2.2⟩
  · obtain ⟨a1, a2, a3, a4, a5, a6⟩ := r.2.1 j hj
    exact ⟨(e1 j (by omega)).trans a1, fun i hi => (e2 _ (by omega)).trans (a2 i hi), (e3 j (by omega)).trans a3, (e4 j (by omega)).trans a4, a5, a6⟩
  · have h9 := r.W9 w hp
    obtain ⟨a1, a2, a3, a4, a5, a6⟩ := r.2.2.1 p hp
    exact ⟨(e5 p (by omega)).trans a1, (e6 p hp).trans a2, (e7 p (by omega)).trans a3, fun i hi => (e8 _ (by omega)).trans (a4 i hi), a5, a6⟩
  · exact (e9 e (by omega)).trans (r.2.2.2.1 e he)
/-- a name among the names, and among the pages -/
theorem R0.mem (r : R0 n S N T V W aS aB aU aH aD aX aM aW aT iD iA) (w : WF n S) {nm : List Int32} : nm ∈ (S.rec (S.at (hsh nm))).map Prod.fst ↔ ∃ j, j < N ∧ T j = nm := by
  have hat := S.at_lt w (hsh nm)
  have hu : S.used ≤ n := w.2.1
  constructor
  · intro h
    rw [(r.2.2.1 _ (show S.at (hsh nm) < n by omega)).2.2.2.2.1, List.map_map] at h
    obtain ⟨j, hj, e⟩ := List.mem_map.mp h
    exact ⟨j, (r.2.2.1 _ (show S.at (hsh nm) < n by omega)).2.2.2.2.2 j hj, e⟩
  · rintro ⟨j, hj, e⟩
    obtain ⟨p, hp, hjp⟩ := r.2.2.2.2.1 j hj
    have hx : (T j, V j) ∈ S.rec p := by rw [(r.2.2.1 p hp).2.2.2.2.1]; exact List.mem_map.mpr ⟨j, hjp, rfl⟩
    have ha : S.at (hsh (T j)) = p := w.2.2.2.2.2.2.2.1 p _ hx
    rw [e] at ha
    rw [ha]
    exact List.mem_map.mpr ⟨_, hx, e⟩
theorem R0.page (r : R0 n S N T V W aS aB aU aH aD aX aM aW aT iD iA) (w : WF n S) {j p : Nat} (hp : p < n) (hj : j ∈ W p) : S.at (hsh (T j)) = p := by
  have hx : (T j, V j) ∈ S.rec p := by rw [(r.2.2.1 p hp).2.2.2.2.1]; exact List.mem_map.mpr ⟨j, hj, rfl⟩
  exact w.2.2.2.2.2.2.2.1 p _ hx
theorem numOf_mem {nm : List Int32} {v : Int32} : ∀ {rs : List Rc}, (rs.map Prod.fst).Nodup → (nm, v) ∈ rs → numOf nm rs = v
  | [], _, h => by cases h
  | x :: t, hnd, h => by
    rw [List.map_cons, List.nodup_cons] at hnd
    rw [numOf]
    rcases List.mem_cons.mp h with h | h
    · rw [← h, if_pos rfl]
    · rw [if_neg (fun e => hnd.1 (by rw [e]; exact List.mem_map.mpr ⟨_, h, rfl⟩))]
      exact numOf_mem hnd.2 h
theorem R0.num (r : R0 n S N T V W aS aB aU aH aD aX aM aW aT iD iA) (w : WF n S) {j : Nat} (hj : j < N) : numOf (T j) (S.rec (S.at (hsh (T j)))) = V j := by
  obtain ⟨p, hp, hjp⟩ := r.2.2.2.2.1 j hj
  rw [r.page w hp hjp]
  refine numOf_mem (w.2.2.2.2.2.2.2.2.2.1 p) ?_
  rw [(r.2.2.1 p hp).2.2.2.2.1]
  exact List.mem_map.mpr ⟨j, hjp, rfl⟩
end
section
variable {h0 : Nat → Option va_E} {z : Nat × Nat × Nat} {m n jl fd : Nat} {c : Int32} {aN aS aB aU aH aD aX aM aW aI aT aA aK aL aF aP : Nat → Int32} {S : Sh} {N : Nat} {T : Nat → List Int32} {V : Nat → Int32} {W : Nat → List Nat} {iD iA : Int32}
/-- look: a name compared -/
theorem look_i (hf : fd ≤ 12) {j : Nat} (hj : j < 400) : ∀ (r k : Nat), k + r = fd → ∃ w : Value, rn 103 33 [.ref m, .int (nI j), .int 1, .int (nI k)] [] ((hp h0 m c n jl fd aN aS aB aU aH aD aX aM aW aI aT aA aK aL aF aP), z) = rn 103 77 [.ref m, .int (nI j), .int (if ∀ i, i < fd → k ≤ i → aB (12 * j + i) = aF i then 1 else 0), w] [] ((hp h0 m c n jl fd aN aS aB aU aH aD aX aM aW aI aT aA aK aL aF aP), z) := by
  intro r
  induction r with
  | zero =>
    intro k hk
    have h1 : nI fd ≤ nI k := by rw [nI_leI (by omega) (by omega)]; omega
    refine ⟨.int (nI k), ?_⟩
    rw [sX7_look_33, if_pos (fun i h2 h1 => by omega)]
    simp only [sX7_look_0, sX7_look_1, sX7_look_2, sX7_look_3, sX7_look_4, sX7_look_7, sX7_look_8, sX7_look_9, sX7_look_12, sX7_look_13, sX7_look_16, sX7_look_17, sX7_look_18, sX7_look_19, sX7_look_22, sX7_look_25, sX7_look_26, sX7_look_29, sX7_look_30, sX7_look_31, sX7_look_32, sX7_look_34, sX7_look_35, sX7_look_38, sX7_look_41, sX7_look_42, sX7_look_45, sX7_look_46, sX7_look_49, sX7_look_51, sX7_look_52, sX7_look_53, sX7_look_54, sX7_look_55, sX7_look_56, sX7_look_57, sX7_look_60, sX7_look_61, sX7_look_62, sX7_look_65, sX7_look_66, sX7_look_69, sX7_look_70, sX7_look_71, sX7_look_74, sX7_look_78, sX7_look_81, sX7_look_82, sX7_look_83, sX7_look_86, sX7_look_89, sX7_look_90, hp_o, hp_1, hp_2, hp_3, hp_4, hp_5, hp_6, hp_7, hp_8, hp_9, hp_10, hp_11, hp_12, hp_13, hp_14, hp_15, hp_16, wp_o, wp_j, wp_f, wp_1, wp_2, wp_3, wp_4, wp_5, wp_6, wp_7, wp_8, wp_9, wp_10, wp_11, wp_12, wp_13, wp_14, wp_15, wp_16, gf_0, pf_0, gf_1, pf_1, gf_2, pf_2, gf_3, pf_3, gf_4, pf_4, gf_5, pf_5, gf_6, pf_6, gf_7, pf_7, gf_8, pf_8, gf_9, pf_9, gf_10, pf_10, gf_11, pf_11, gf_12, pf_12, gf_13, pf_13, gf_14, pf_14, gf_15, pf_15, gf_16, pf_16, gf_17, pf_17, gf_18, pf_18, gf_19, pf_19, List.set_cons_zero, List.set_cons_succ, al_0, as_0, cl0, m8, m10, m12, m32, m40, m64, m400, m4800, h1, if_true]
  | succ r ih =>
    intro k hk
    have h1 : ¬ nI fd ≤ nI k := by rw [nI_leI (by omega) (by omega)]; omega
    have i1 : 12 * j + k < 14400 := by omega
    have i2 : k < 12 := by omega
    by_cases q : aB (12 * j + k) = aF k
    · obtain ⟨w, hw⟩ := ih (k + 1) (by omega)
      refine ⟨w, ?_⟩
      have e : (∀ i, i < fd → k + 1 ≤ i → aB (12 * j + i) = aF i) ↔ (∀ i, i < fd → k ≤ i → aB (12 * j + i) = aF i) := ⟨fun g i h4 h3 => by
        by_cases e : i = k
        · rw [e]; exact q
        · exact g i h4 (by omega), fun g i h4 h3 => g i h4 (by omega)⟩
      have e3 : (if ∀ i, i < fd → k + 1 ≤ i → aB (12 * j + i) = aF i then (1 : Int32) else 0) = if ∀ i, i < fd → k ≤ i → aB (12 * j + i) = aF i then 1 else 0 := by
        by_cases y : ∀ i, i < fd → k ≤ i → aB (12 * j + i) = aF i
        · rw [if_pos y, if_pos (e.mpr y)]
        · rw [if_neg y, if_neg (mt e.mp y)]
      rw [e3] at hw
      rw [← hw, sX7_look_33]
      simp only [sX7_look_0, sX7_look_1, sX7_look_2, sX7_look_3, sX7_look_4, sX7_look_7, sX7_look_8, sX7_look_9, sX7_look_12, sX7_look_13, sX7_look_16, sX7_look_17, sX7_look_18, sX7_look_19, sX7_look_22, sX7_look_25, sX7_look_26, sX7_look_29, sX7_look_30, sX7_look_31, sX7_look_32, sX7_look_34, sX7_look_35, sX7_look_38, sX7_look_41, sX7_look_42, sX7_look_45, sX7_look_46, sX7_look_49, sX7_look_51, sX7_look_52, sX7_look_53, sX7_look_54, sX7_look_55, sX7_look_56, sX7_look_57, sX7_look_60, sX7_look_61, sX7_look_62, sX7_look_65, sX7_look_66, sX7_look_69, sX7_look_70, sX7_look_71, sX7_look_74, sX7_look_78, sX7_look_81, sX7_look_82, sX7_look_83, sX7_look_86, sX7_look_89, sX7_look_90, hp_o, hp_1, hp_2, hp_3, hp_4, hp_5, hp_6, hp_7, hp_8, hp_9, hp_10, hp_11, hp_12, hp_13, hp_14, hp_15, hp_16, wp_o, wp_j, wp_f, wp_1, wp_2, wp_3, wp_4, wp_5, wp_6, wp_7, wp_8, wp_9, wp_10, wp_11, wp_12, wp_13, wp_14, wp_15, wp_16, gf_0, pf_0, gf_1, pf_1, gf_2, pf_2, gf_3, pf_3, gf_4, pf_4, gf_5, pf_5, gf_6, pf_6, gf_7, pf_7, gf_8, pf_8, gf_9, pf_9, gf_10, pf_10, gf_11, pf_11, gf_12, pf_12, gf_13, pf_13, gf_14, pf_14, gf_15, pf_15, gf_16, pf_16, gf_17, pf_17, gf_18, pf_18, gf_19, pf_19, List.set_cons_zero, List.set_cons_succ, al_0, as_0, cl0, m8, m10, m12, m32, m40, m64, m400, m4800, bd_v, bi_v, Option.toList, List.cons_append, List.nil_append, List.length_cons, List.length_nil, Nat.reduceAdd, Nat.reduceLeDiff, ck_in, nI_add, nI_1, if_false, if_true, h1, show ¬ ((1 : Int32) = 0) by decide, al_in i1 (show 14400 ≤ 100000 by omega), al_in i2 (show 12 ≤ 100000 by omega), q, not_true_eq_false]
    · have i3 : ∀ x : Int32, ∃ w : Value, rn 103 33 [.ref m, .int (nI j), .int 0, .int x] [] ((hp h0 m c n jl fd aN aS aB aU aH aD aX aM aW aI aT aA aK aL aF aP), z) = rn 103 77 [.ref m, .int (nI j), .int 0, w] [] ((hp h0 m c n jl fd aN aS aB aU aH aD aX aM aW aI aT aA aK aL aF aP), z) := by
        intro x
        refine ⟨.int x, ?_⟩
        rw [sX7_look_33]
        by_cases y : nI fd ≤ x
        · simp only [sX7_look_0, sX7_look_1, sX7_look_2, sX7_look_3, sX7_look_4, sX7_look_7, sX7_look_8, sX7_look_9, sX7_look_12, sX7_look_13, sX7_look_16, sX7_look_17, sX7_look_18, sX7_look_19, sX7_look_22, sX7_look_25, sX7_look_26, sX7_look_29, sX7_look_30, sX7_look_31, sX7_look_32, sX7_look_34, sX7_look_35, sX7_look_38, sX7_look_41, sX7_look_42, sX7_look_45, sX7_look_46, sX7_look_49, sX7_look_51, sX7_look_52, sX7_look_53, sX7_look_54, sX7_look_55, sX7_look_56, sX7_look_57, sX7_look_60, sX7_look_61, sX7_look_62, sX7_look_65, sX7_look_66, sX7_look_69, sX7_look_70, sX7_look_71, sX7_look_74, sX7_look_78, sX7_look_81, sX7_look_82, sX7_look_83, sX7_look_86, sX7_look_89, sX7_look_90, hp_o, hp_1, hp_2, hp_3, hp_4, hp_5, hp_6, hp_7, hp_8, hp_9, hp_10, hp_11, hp_12, hp_13, hp_14, hp_15, hp_16, wp_o, wp_j, wp_f, wp_1, wp_2, wp_3, wp_4, wp_5, wp_6, wp_7, wp_8, wp_9, wp_10, wp_11, wp_12, wp_13, wp_14, wp_15, wp_16, gf_0, pf_0, gf_1, pf_1, gf_2, pf_2, gf_3, pf_3, gf_4, pf_4, gf_5, pf_5, gf_6, pf_6, gf_7, pf_7, gf_8, pf_8, gf_9, pf_9, gf_10, pf_10, gf_11, pf_11, gf_12, pf_12, gf_13, pf_13, gf_14, pf_14, gf_15, pf_15, gf_16, pf_16, gf_17, pf_17, gf_18, pf_18, gf_19, pf_19, List.set_cons_zero, List.set_cons_succ, al_0, as_0, cl0, m8, m10, m12, m32, m40, m64, m400, m4800, y, if_true]
        · simp only [sX7_look_0, sX7_look_1, sX7_look_2, sX7_look_3, sX7_look_4, sX7_look_7, sX7_look_8, sX7_look_9, sX7_look_12, sX7_look_13, sX7_look_16, sX7_look_17, sX7_look_18, sX7_look_19, sX7_look_22, sX7_look_25, sX7_look_26, sX7_look_29, sX7_look_30, sX7_look_31, sX7_look_32, sX7_look_34, sX7_look_35, sX7_look_38, sX7_look_41, sX7_look_42, sX7_look_45, sX7_look_46, sX7_look_49, sX7_look_51, sX7_look_52, sX7_look_53, sX7_look_54, sX7_look_55, sX7_look_56, sX7_look_57, sX7_look_60, sX7_look_61, sX7_look_62, sX7_look_65, sX7_look_66, sX7_look_69, sX7_look_70, sX7_look_71, sX7_look_74, sX7_look_78, sX7_look_81, sX7_look_82, sX7_look_83, sX7_look_86, sX7_look_89, sX7_look_90, hp_o, hp_1, hp_2, hp_3, hp_4, hp_5, hp_6, hp_7, hp_8, hp_9, hp_10, hp_11, hp_12, hp_13, hp_14, hp_15, hp_16, wp_o, wp_j, wp_f, wp_1, wp_2, wp_3, wp_4, wp_5, wp_6, wp_7, wp_8, wp_9, wp_10, wp_11, wp_12, wp_13, wp_14, wp_15, wp_16, gf_0, pf_0, gf_1, pf_1, gf_2, pf_2, gf_3, pf_3, gf_4, pf_4, gf_5, pf_5, gf_6, pf_6, gf_7, pf_7, gf_8, pf_8, gf_9, pf_9, gf_10, pf_10, gf_11, pf_11, gf_12, pf_12, gf_13, pf_13, gf_14, pf_14, gf_15, pf_15, gf_16, pf_16, gf_17, pf_17, gf_18, pf_18, gf_19, pf_19, List.set_cons_zero, List.set_cons_succ, al_0, as_0, cl0, m8, m10, m12, m32, m40, m64, m400, m4800, y, if_true, if_false]
      obtain ⟨w, hw⟩ := i3 (nI (k + 1))
      refine ⟨w, ?_⟩
      rw [if_neg (fun g => q (g k (by omega) (Nat.le_refl _))), ← hw, sX7_look_33]
      simp only [sX7_look_0, sX7_look_1, sX7_look_2, sX7_look_3, sX7_look_4, sX7_look_7, sX7_look_8, sX7_look_9, sX7_look_12, sX7_look_13, sX7_look_16, sX7_look_17, sX7_look_18, sX7_look_19, sX7_look_22, sX7_look_25, sX7_look_26, sX7_look_29, sX7_look_30, sX7_look_31, sX7_look_32, sX7_look_34, sX7_look_35, sX7_look_38, sX7_look_41, sX7_look_42, sX7_look_45, sX7_look_46, sX7_look_49, sX7_look_51, sX7_look_52, sX7_look_53, sX7_look_54, sX7_look_55, sX7_look_56, sX7_look_57, sX7_look_60, sX7_look_61, sX7_look_62, sX7_look_65, sX7_look_66, sX7_look_69, sX7_look_70, sX7_look_71, sX7_look_74, sX7_look_78, sX7_look_81, sX7_look_82, sX7_look_83, sX7_look_86, sX7_look_89, sX7_look_90, hp_o, hp_1, hp_2, hp_3, hp_4, hp_5, hp_6, hp_7, hp_8, hp_9, hp_10, hp_11, hp_12, hp_13, hp_14, hp_15, hp_16, wp_o, wp_j, wp_f, wp_1, wp_2, wp_3, wp_4, wp_5, wp_6, wp_7, wp_8, wp_9, wp_10, wp_11, wp_12, wp_13, wp_14, wp_15, wp_16, gf_0, pf_0, gf_1, pf_1, gf_2, pf_2, gf_3, pf_3, gf_4, pf_4, gf_5, pf_5, gf_6, pf_6, gf_7, pf_7, gf_8, pf_8, gf_9, pf_9, gf_10, pf_10, gf_11, pf_11, gf_12, pf_12, gf_13, pf_13, gf_14, pf_14, gf_15, pf_15, gf_16, pf_16, gf_17, pf_17, gf_18, pf_18, gf_19, pf_19, List.set_cons_zero, List.set_cons_succ, al_0, as_0, cl0, m8, m10, m12, m32, m40, m64, m400, m4800, bd_v, bi_v, Option.toList, List.cons_append, List.nil_append, List.length_cons, List.length_nil, Nat.reduceAdd, Nat.reduceLeDiff, ck_in, nI_add, nI_1, if_false, if_true, h1, show ¬ ((1 : Int32) = 0) by decide, al_in i1 (show 14400 ≤ 100000 by omega), al_in i2 (show 12 ≤ 100000 by omega), q, not_false_eq_true]
theorem look_0 {j : Nat} : ∃ w : Value, rn 103 33 [.ref m, .int (nI j), .int 0, .int 0] [] ((hp h0 m c n jl fd aN aS aB aU aH aD aX aM aW aI aT aA aK aL aF aP), z) = rn 103 77 [.ref m, .int (nI j), .int 0, w] [] ((hp h0 m c n jl fd aN aS aB aU aH aD aX aM aW aI aT aA aK aL aF aP), z) := by
  refine ⟨.int 0, ?_⟩
  rw [sX7_look_33]
  by_cases y : nI fd ≤ 0
  · simp only [sX7_look_0, sX7_look_1, sX7_look_2, sX7_look_3, sX7_look_4, sX7_look_7, sX7_look_8, sX7_look_9, sX7_look_12, sX7_look_13, sX7_look_16, sX7_look_17, sX7_look_18, sX7_look_19, sX7_look_22, sX7_look_25, sX7_look_26, sX7_look_29, sX7_look_30, sX7_look_31, sX7_look_32, sX7_look_34, sX7_look_35, sX7_look_38, sX7_look_41, sX7_look_42, sX7_look_45, sX7_look_46, sX7_look_49, sX7_look_51, sX7_look_52, sX7_look_53, sX7_look_54, sX7_look_55, sX7_look_56, sX7_look_57, sX7_look_60, sX7_look_61, sX7_look_62, sX7_look_65, sX7_look_66, sX7_look_69, sX7_look_70, sX7_look_71, sX7_look_74, sX7_look_78, sX7_look_81, sX7_look_82, sX7_look_83, sX7_look_86, sX7_look_89, sX7_look_90, hp_o, hp_1, hp_2, hp_3, hp_4, hp_5, hp_6, hp_7, hp_8, hp_9, hp_10, hp_11, hp_12, hp_13, hp_14, hp_15, hp_16, wp_o, wp_j, wp_f, wp_1, wp_2, wp_3, wp_4, wp_5, wp_6, wp_7, wp_8, wp_9, wp_10, wp_11, wp_12, wp_13, wp_14, wp_15, wp_16, gf_0, pf_0, gf_1, pf_1, gf_2, pf_2, gf_3, pf_3, gf_4, pf_4, gf_5, pf_5, gf_6, pf_6, gf_7, pf_7, gf_8, pf_8, gf_9, pf_9, gf_10, pf_10, gf_11, pf_11, gf_12, pf_12, gf_13, pf_13, gf_14, pf_14, gf_15, pf_15, gf_16, pf_16, gf_17, pf_17, gf_18, pf_18, gf_19, pf_19, List.set_cons_zero, List.set_cons_succ, al_0, as_0, cl0, m8, m10, m12, m32, m40, m64, m400, m4800, y, if_true]
  · simp only [sX7_look_0, sX7_look_1, sX7_look_2, sX7_look_3, sX7_look_4, sX7_look_7, sX7_look_8, sX7_look_9, sX7_look_12, sX7_look_13, sX7_look_16, sX7_look_17, sX7_look_18, sX7_look_19, sX7_look_22, sX7_look_25, sX7_look_26, sX7_look_29, sX7_look_30, sX7_look_31, sX7_look_32, sX7_look_34, sX7_look_35, sX7_look_38, sX7_look_41, sX7_look_42, sX7_look_45, sX7_look_46, sX7_look_49, sX7_look_51, sX7_look_52, sX7_look_53, sX7_look_54, sX7_look_55, sX7_look_56, sX7_look_57, sX7_look_60, sX7_look_61, sX7_look_62, sX7_look_65, sX7_look_66, sX7_look_69, sX7_look_70, sX7_look_71, sX7_look_74, sX7_look_78, sX7_look_81, sX7_look_82, sX7_look_83, sX7_look_86, sX7_look_89, sX7_look_90, hp_o, hp_1, hp_2, hp_3, hp_4, hp_5, hp_6, hp_7, hp_8, hp_9, hp_10, hp_11, hp_12, hp_13, hp_14, hp_15, hp_16, wp_o, wp_j, wp_f, wp_1, wp_2, wp_3, wp_4, wp_5, wp_6, wp_7, wp_8, wp_9, wp_10, wp_11, wp_12, wp_13, wp_14, wp_15, wp_16, gf_0, pf_0, gf_1, pf_1, gf_2, pf_2, gf_3, pf_3, gf_4, pf_4, gf_5, pf_5, gf_6, pf_6, gf_7, pf_7, gf_8, pf_8, gf_9, pf_9, gf_10, pf_10, gf_11, pf_11, gf_12, pf_12, gf_13, pf_13, gf_14, pf_14, gf_15, pf_15, gf_16, pf_16, gf_17, pf_17, gf_18, pf_18, gf_19, pf_19, List.set_cons_zero, List.set_cons_succ, al_0, as_0, cl0, m8, m10, m12, m32, m40, m64, m400, m4800, y, if_true, if_false]
theorem look_o (w : WF n S) (r0 : R0 n S N T V W aS aB aU aH aD aX aM aW aT iD iA) (hN : aN 0 = nI N) (hf : fd ≤ 12) : ∀ (r j : Nat) (w2 w3 : Value), j + r = N →
    ((∀ i, j ≤ i → i < N → T i ≠ nmof fd aF) → rn 103 2 [.ref m, .int (nI j), w2, w3] [] ((hp h0 m c n jl fd aN aS aB aU aH aD aX aM aW aI aT aA aK aL aF aP), z) = some (.inl (some (.int (-1))), ((hp h0 m c n jl fd aN aS aB aU aH aD aX aM aW aI aT aA aK aL aF aP), z))) ∧
    (∀ i0, j ≤ i0 → i0 < N → T i0 = nmof fd aF → rn 103 2 [.ref m, .int (nI j), w2, w3] [] ((hp h0 m c n jl fd aN aS aB aU aH aD aX aM aW aI aT aA aK aL aF aP), z) = some (.inl (some (.int (nI i0))), ((hp h0 m c n jl fd aN aS aB aU aH aD aX aM aW aI aT aA aK aL aF aP), z))) := by
  have hNN := r0.n360 w
  intro r
  induction r with
  | zero =>
    intro j w2 w3 hj
    have h1 : nI N ≤ nI j := by rw [nI_leI (by omega) (by omega)]; omega
    refine ⟨fun _ => ?_, fun i0 h2 h3 => by omega⟩
    rw [sX7_look_2]
    simp only [sX7_look_0, sX7_look_1, sX7_look_3, sX7_look_4, sX7_look_7, sX7_look_8, sX7_look_9, sX7_look_12, sX7_look_13, sX7_look_16, sX7_look_17, sX7_look_18, sX7_look_19, sX7_look_22, sX7_look_25, sX7_look_26, sX7_look_29, sX7_look_30, sX7_look_31, sX7_look_32, sX7_look_34, sX7_look_35, sX7_look_38, sX7_look_41, sX7_look_42, sX7_look_45, sX7_look_46, sX7_look_49, sX7_look_51, sX7_look_52, sX7_look_53, sX7_look_54, sX7_look_55, sX7_look_56, sX7_look_57, sX7_look_60, sX7_look_61, sX7_look_62, sX7_look_65, sX7_look_66, sX7_look_69, sX7_look_70, sX7_look_71, sX7_look_74, sX7_look_78, sX7_look_81, sX7_look_82, sX7_look_83, sX7_look_86, sX7_look_89, sX7_look_90, hp_o, hp_1, hp_2, hp_3, hp_4, hp_5, hp_6, hp_7, hp_8, hp_9, hp_10, hp_11, hp_12, hp_13, hp_14, hp_15, hp_16, wp_o, wp_j, wp_f, wp_1, wp_2, wp_3, wp_4, wp_5, wp_6, wp_7, wp_8, wp_9, wp_10, wp_11, wp_12, wp_13, wp_14, wp_15, wp_16, gf_0, pf_0, gf_1, pf_1, gf_2, pf_2, gf_3, pf_3, gf_4, pf_4, gf_5, pf_5, gf_6, pf_6, gf_7, pf_7, gf_8, pf_8, gf_9, pf_9, gf_10, pf_10, gf_11, pf_11, gf_12, pf_12, gf_13, pf_13, gf_14, pf_14, gf_15, pf_15, gf_16, pf_16, gf_17, pf_17, gf_18, pf_18, gf_19, pf_19, List.set_cons_zero, List.set_cons_succ, al_0, as_0, cl0, m8, m10, m12, m32, m40, m64, m400, m4800, hN, h1, if_true]
  | succ r ih =>
    intro j w2 w3 hj
    have h1 : ¬ nI N ≤ nI j := by rw [nI_leI (by omega) (by omega)]; omega
    have i1 : j < 1200 := by omega
    have l1 : 1200 ≤ 100000 := by omega
    obtain ⟨a1, a2, a3, a4, a5, a6⟩ := r0.2.1 j (by omega)
    have es : (nI (T j).length = nI fd) ↔ (T j).length = fd := nI_eq (by omega) (by omega)
    by_cases q : T j = nmof fd aF
    · have q1 : (T j).length = fd := by rw [q, nmof_len]
      obtain ⟨w, hw⟩ := look_i (h0 := h0) (z := z) (m := m) (n := n) (jl := jl) (c := c) (aN := aN) (aS := aS) (aB := aB) (aU := aU) (aH := aH) (aD := aD) (aX := aX) (aM := aM) (aW := aW) (aI := aI) (aT := aT) (aA := aA) (aK := aK) (aL := aL) (aF := aF) (aP := aP) hf (show j < 400 by omega) fd 0 (by omega)
      rw [if_pos (fun i h3 h2 => by rw [a2 i (by omega), q, nmof_get h3])] at hw
      refine ⟨fun g => absurd q (g j (Nat.le_refl _) (by omega)), fun i0 h2 h3 h4 => ?_⟩
      have e0 : i0 = j := r0.2.2.2.2.2.1 i0 j h3 (by omega) (h4.trans q.symm)
      rw [e0, sX7_look_2]
      simp only [sX7_look_0, sX7_look_1, sX7_look_3, sX7_look_4, sX7_look_7, sX7_look_8, sX7_look_9, sX7_look_12, sX7_look_13, sX7_look_16, sX7_look_17, sX7_look_18, sX7_look_19, sX7_look_22, sX7_look_25, sX7_look_26, sX7_look_29, sX7_look_30, sX7_look_31, sX7_look_32, sX7_look_34, sX7_look_35, sX7_look_38, sX7_look_41, sX7_look_42, sX7_look_45, sX7_look_46, sX7_look_49, sX7_look_51, sX7_look_52, sX7_look_53, sX7_look_54, sX7_look_55, sX7_look_56, sX7_look_57, sX7_look_60, sX7_look_61, sX7_look_62, sX7_look_65, sX7_look_66, sX7_look_69, sX7_look_70, sX7_look_71, sX7_look_74, sX7_look_78, sX7_look_81, sX7_look_82, sX7_look_83, sX7_look_86, sX7_look_89, sX7_look_90, hp_o, hp_1, hp_2, hp_3, hp_4, hp_5, hp_6, hp_7, hp_8, hp_9, hp_10, hp_11, hp_12, hp_13, hp_14, hp_15, hp_16, wp_o, wp_j, wp_f, wp_1, wp_2, wp_3, wp_4, wp_5, wp_6, wp_7, wp_8, wp_9, wp_10, wp_11, wp_12, wp_13, wp_14, wp_15, wp_16, gf_0, pf_0, gf_1, pf_1, gf_2, pf_2, gf_3, pf_3, gf_4, pf_4, gf_5, pf_5, gf_6, pf_6, gf_7, pf_7, gf_8, pf_8, gf_9, pf_9, gf_10, pf_10, gf_11, pf_11, gf_12, pf_12, gf_13, pf_13, gf_14, pf_14, gf_15, pf_15, gf_16, pf_16, gf_17, pf_17, gf_18, pf_18, gf_19, pf_19, List.set_cons_zero, List.set_cons_succ, al_0, as_0, cl0, m8, m10, m12, m32, m40, m64, m400, m4800, hN, h1, if_false, al_in i1 l1, a1, eq_true (es.mpr q1), not_true_eq_false]
      refine hw.trans ?_
      rw [sX7_look_77]
      simp only [sX7_look_0, sX7_look_1, sX7_look_3, sX7_look_4, sX7_look_7, sX7_look_8, sX7_look_9, sX7_look_12, sX7_look_13, sX7_look_16, sX7_look_17, sX7_look_18, sX7_look_19, sX7_look_22, sX7_look_25, sX7_look_26, sX7_look_29, sX7_look_30, sX7_look_31, sX7_look_32, sX7_look_34, sX7_look_35, sX7_look_38, sX7_look_41, sX7_look_42, sX7_look_45, sX7_look_46, sX7_look_49, sX7_look_51, sX7_look_52, sX7_look_53, sX7_look_54, sX7_look_55, sX7_look_56, sX7_look_57, sX7_look_60, sX7_look_61, sX7_look_62, sX7_look_65, sX7_look_66, sX7_look_69, sX7_look_70, sX7_look_71, sX7_look_74, sX7_look_78, sX7_look_81, sX7_look_82, sX7_look_83, sX7_look_86, sX7_look_89, sX7_look_90, show ¬ ((1 : Int32) = 0) by decide, if_false]
    · have hgo : ∃ w2' w3', rn 103 2 [.ref m, .int (nI j), w2, w3] [] ((hp h0 m c n jl fd aN aS aB aU aH aD aX aM aW aI aT aA aK aL aF aP), z) = rn 103 2 [.ref m, .int (nI (j + 1)), w2', w3'] [] ((hp h0 m c n jl fd aN aS aB aU aH aD aX aM aW aI aT aA aK aL aF aP), z) := by
        by_cases q1 : (T j).length = fd
        · obtain ⟨w, hw⟩ := look_i (h0 := h0) (z := z) (m := m) (n := n) (jl := jl) (c := c) (aN := aN) (aS := aS) (aB := aB) (aU := aU) (aH := aH) (aD := aD) (aX := aX) (aM := aM) (aW := aW) (aI := aI) (aT := aT) (aA := aA) (aK := aK) (aL := aL) (aF := aF) (aP := aP) hf (show j < 400 by omega) fd 0 (by omega)
          rw [if_neg (fun g => q (nmof_eq q1 (fun i hi => by rw [← a2 i (by omega)]; exact g i hi (Nat.zero_le _))))] at hw
          refine ⟨.int 0, w, ?_⟩
          rw [sX7_look_2]
          simp only [sX7_look_0, sX7_look_1, sX7_look_3, sX7_look_4, sX7_look_7, sX7_look_8, sX7_look_9, sX7_look_12, sX7_look_13, sX7_look_16, sX7_look_17, sX7_look_18, sX7_look_19, sX7_look_22, sX7_look_25, sX7_look_26, sX7_look_29, sX7_look_30, sX7_look_31, sX7_look_32, sX7_look_34, sX7_look_35, sX7_look_38, sX7_look_41, sX7_look_42, sX7_look_45, sX7_look_46, sX7_look_49, sX7_look_51, sX7_look_52, sX7_look_53, sX7_look_54, sX7_look_55, sX7_look_56, sX7_look_57, sX7_look_60, sX7_look_61, sX7_look_62, sX7_look_65, sX7_look_66, sX7_look_69, sX7_look_70, sX7_look_71, sX7_look_74, sX7_look_78, sX7_look_81, sX7_look_82, sX7_look_83, sX7_look_86, sX7_look_89, sX7_look_90, hp_o, hp_1, hp_2, hp_3, hp_4, hp_5, hp_6, hp_7, hp_8, hp_9, hp_10, hp_11, hp_12, hp_13, hp_14, hp_15, hp_16, wp_o, wp_j, wp_f, wp_1, wp_2, wp_3, wp_4, wp_5, wp_6, wp_7, wp_8, wp_9, wp_10, wp_11, wp_12, wp_13, wp_14, wp_15, wp_16, gf_0, pf_0, gf_1, pf_1, gf_2, pf_2, gf_3, pf_3, gf_4, pf_4, gf_5, pf_5, gf_6, pf_6, gf_7, pf_7, gf_8, pf_8, gf_9, pf_9, gf_10, pf_10, gf_11, pf_11, gf_12, pf_12, gf_13, pf_13, gf_14, pf_14, gf_15, pf_15, gf_16, pf_16, gf_17, pf_17, gf_18, pf_18, gf_19, pf_19, List.set_cons_zero, List.set_cons_succ, al_0, as_0, cl0, m8, m10, m12, m32, m40, m64, m400, m4800, hN, h1, if_false, al_in i1 l1, a1, eq_true (es.mpr q1), not_true_eq_false]
          refine hw.trans ?_
          rw [sX7_look_77]
          simp only [sX7_look_0, sX7_look_1, sX7_look_3, sX7_look_4, sX7_look_7, sX7_look_8, sX7_look_9, sX7_look_12, sX7_look_13, sX7_look_16, sX7_look_17, sX7_look_18, sX7_look_19, sX7_look_22, sX7_look_25, sX7_look_26, sX7_look_29, sX7_look_30, sX7_look_31, sX7_look_32, sX7_look_34, sX7_look_35, sX7_look_38, sX7_look_41, sX7_look_42, sX7_look_45, sX7_look_46, sX7_look_49, sX7_look_51, sX7_look_52, sX7_look_53, sX7_look_54, sX7_look_55, sX7_look_56, sX7_look_57, sX7_look_60, sX7_look_61, sX7_look_62, sX7_look_65, sX7_look_66, sX7_look_69, sX7_look_70, sX7_look_71, sX7_look_74, sX7_look_78, sX7_look_81, sX7_look_82, sX7_look_83, sX7_look_86, sX7_look_89, sX7_look_90, bd_v, bi_v, Option.toList, List.cons_append, List.nil_append, List.length_cons, List.length_nil, Nat.reduceAdd, Nat.reduceLeDiff, ck_in, nI_add, nI_1, if_false, if_true]
        · obtain ⟨w, hw⟩ := look_0 (h0 := h0) (z := z) (m := m) (n := n) (jl := jl) (fd := fd) (c := c) (aN := aN) (aS := aS) (aB := aB) (aU := aU) (aH := aH) (aD := aD) (aX := aX) (aM := aM) (aW := aW) (aI := aI) (aT := aT) (aA := aA) (aK := aK) (aL := aL) (aF := aF) (aP := aP) (j := j)
          refine ⟨.int 0, w, ?_⟩
          rw [sX7_look_2]
          simp only [sX7_look_0, sX7_look_1, sX7_look_3, sX7_look_4, sX7_look_7, sX7_look_8, sX7_look_9, sX7_look_12, sX7_look_13, sX7_look_16, sX7_look_17, sX7_look_18, sX7_look_19, sX7_look_22, sX7_look_25, sX7_look_26, sX7_look_29, sX7_look_30, sX7_look_31, sX7_look_32, sX7_look_34, sX7_look_35, sX7_look_38, sX7_look_41, sX7_look_42, sX7_look_45, sX7_look_46, sX7_look_49, sX7_look_51, sX7_look_52, sX7_look_53, sX7_look_54, sX7_look_55, sX7_look_56, sX7_look_57, sX7_look_60, sX7_look_61, sX7_look_62, sX7_look_65, sX7_look_66, sX7_look_69, sX7_look_70, sX7_look_71, sX7_look_74, sX7_look_78, sX7_look_81, sX7_look_82, sX7_look_83, sX7_look_86, sX7_look_89, sX7_look_90, hp_o, hp_1, hp_2, hp_3, hp_4, hp_5, hp_6, hp_7, hp_8, hp_9, hp_10, hp_11, hp_12, hp_13, hp_14, hp_15, hp_16, wp_o, wp_j, wp_f, wp_1, wp_2, wp_3, wp_4, wp_5, wp_6, wp_7, wp_8, wp_9, wp_10, wp_11, wp_12, wp_13, wp_14, wp_15, wp_16, gf_0, pf_0, gf_1, pf_1, gf_2, pf_2, gf_3, pf_3, gf_4, pf_4, gf_5, pf_5, gf_6, pf_6, gf_7, pf_7, gf_8, pf_8, gf_9, pf_9, gf_10, pf_10, gf_11, pf_11, gf_12, pf_12, gf_13, pf_13, gf_14, pf_14, gf_15, pf_15, gf_16, pf_16, gf_17, pf_17, gf_18, pf_18, gf_19, pf_19, List.set_cons_zero, List.set_cons_succ, al_0, as_0, cl0, m8, m10, m12, m32, m40, m64, m400, m4800, hN, h1, if_false, al_in i1 l1, a1, mt es.mp q1, not_false_eq_true, if_true]
          refine hw.trans ?_
          rw [sX7_look_77]
          simp only [sX7_look_0, sX7_look_1, sX7_look_3, sX7_look_4, sX7_look_7, sX7_look_8, sX7_look_9, sX7_look_12, sX7_look_13, sX7_look_16, sX7_look_17, sX7_look_18, sX7_look_19, sX7_look_22, sX7_look_25, sX7_look_26, sX7_look_29, sX7_look_30, sX7_look_31, sX7_look_32, sX7_look_34, sX7_look_35, sX7_look_38, sX7_look_41, sX7_look_42, sX7_look_45, sX7_look_46, sX7_look_49, sX7_look_51, sX7_look_52, sX7_look_53, sX7_look_54, sX7_look_55, sX7_look_56, sX7_look_57, sX7_look_60, sX7_look_61, sX7_look_62, sX7_look_65, sX7_look_66, sX7_look_69, sX7_look_70, sX7_look_71, sX7_look_74, sX7_look_78, sX7_look_81, sX7_look_82, sX7_look_83, sX7_look_86, sX7_look_89, sX7_look_90, bd_v, bi_v, Option.toList, List.cons_append, List.nil_append, List.length_cons, List.length_nil, Nat.reduceAdd, Nat.reduceLeDiff, ck_in, nI_add, nI_1, if_false, if_true]
      obtain ⟨w2', w3', hg⟩ := hgo
      rw [hg]
      obtain ⟨g1, g2⟩ := ih (j + 1) w2' w3' (by omega)
      refine ⟨fun g => g1 (fun i h2 h3 => g i (by omega) h3), fun i0 h2 h3 h4 => g2 i0 ?_ h3 h4⟩
      have : i0 ≠ j := fun e => q (by rw [← e]; exact h4)
      omega
theorem X_look (w : WF n S) (r0 : R0 n S N T V W aS aB aU aH aD aX aM aW aT iD iA) (hN : aN 0 = nI N) (hf : fd ≤ 12) :
    ((∀ i, i < N → T i ≠ nmof fd aF) → cl 103 [.ref m] ((hp h0 m c n jl fd aN aS aB aU aH aD aX aM aW aI aT aA aK aL aF aP), z) = some (.inl (some (.int (-1))), ((hp h0 m c n jl fd aN aS aB aU aH aD aX aM aW aI aT aA aK aL aF aP), z))) ∧
    (∀ i0, i0 < N → T i0 = nmof fd aF → cl 103 [.ref m] ((hp h0 m c n jl fd aN aS aB aU aH aD aX aM aW aI aT aA aK aL aF aP), z) = some (.inl (some (.int (nI i0))), ((hp h0 m c n jl fd aN aS aB aU aH aD aX aM aW aI aT aA aK aL aF aP), z))) := by
  obtain ⟨g1, g2⟩ := look_o (h0 := h0) (z := z) (m := m) (jl := jl) (c := c) (aI := aI) (aA := aA) (aK := aK) (aL := aL) (aP := aP) w r0 hN hf N 0 am_jk am_jk (by omega)
  rw [eX7_look]
  simp only [sX7_look_0, sX7_look_1]
  exact ⟨fun g => g1 (fun i _ h3 => g i h3), fun i0 h3 h4 => g2 i0 (Nat.zero_le _) h3 h4⟩
/-- how long a page is -/
theorem length_l (w : WF n S) (r0 : R0 n S N T V W aS aB aU aH aD aX aM aW aT iD iA) {p : Nat} (hpn : p < n) : ∀ (suf pre : List Nat), W p = pre ++ suf → rn 106 4 [.ref m, .int (nI p), .int (nI (2 + tsz (pre.map (fun j => (T j, V j))))), .int (nI pre.length)] [] ((hp h0 m c n jl fd aN aS aB aU aH aD aX aM aW aI aT aA aK aL aF aP), z) = some (.inl (some (.int (nI (2 + tsz (S.rec p))))), ((hp h0 m c n jl fd aN aS aB aU aH aD aX aM aW aI aT aA aK aL aF aP), z)) := by
  have hn : n ≤ 40 := w.2.2.2.1
  have h9 := r0.W9 w hpn
  obtain ⟨b1, b2, b3, b4, b5, b6⟩ := r0.2.2.1 p hpn
  have i1 : p < 120 := by omega
  have hNN := r0.n360 w
  intro suf
  induction suf with
  | nil =>
    intro pre hw
    rw [List.append_nil] at hw
    have h1 : nI (W p).length ≤ nI pre.length := by rw [hw]; exact nI_le (Nat.le_refl _) (by rw [hw] at h9; omega)
    rw [sX7_length_4]
    simp only [sX7_length_0, sX7_length_1, sX7_length_2, sX7_length_3, sX7_length_5, sX7_length_6, sX7_length_9, sX7_length_10, sX7_length_11, sX7_length_14, sX7_length_15, sX7_length_16, sX7_length_17, sX7_length_20, sX7_length_21, sX7_length_24, sX7_length_26, sX7_length_27, sX7_length_28, sX7_length_29, sX7_length_30, sX7_length_31, sX7_length_32, sX7_length_33, sX7_length_34, sX7_length_35, sX7_length_38, sX7_length_41, sX7_length_42, hp_o, hp_1, hp_2, hp_3, hp_4, hp_5, hp_6, hp_7, hp_8, hp_9, hp_10, hp_11, hp_12, hp_13, hp_14, hp_15, hp_16, wp_o, wp_j, wp_f, wp_1, wp_2, wp_3, wp_4, wp_5, wp_6, wp_7, wp_8, wp_9, wp_10, wp_11, wp_12, wp_13, wp_14, wp_15, wp_16, gf_0, pf_0, gf_1, pf_1, gf_2, pf_2, gf_3, pf_3, gf_4, pf_4, gf_5, pf_5, gf_6, pf_6, gf_7, pf_7, gf_8, pf_8, gf_9, pf_9, gf_10, pf_10, gf_11, pf_11, gf_12, pf_12, gf_13, pf_13, gf_14, pf_14, gf_15, pf_15, gf_16, pf_16, gf_17, pf_17, gf_18, pf_18, gf_19, pf_19, List.set_cons_zero, List.set_cons_succ, al_0, as_0, cl0, m8, m10, m12, m32, m40, m64, m400, m4800, al_in i1 (show 120 ≤ 100000 by omega), b3, h1, if_true]
    rw [b5, hw]
  | cons x suf ih =>
    intro pre hw
    have hl : (W p).length = pre.length + (suf.length + 1) := by rw [hw]; simp
    have h1 : ¬ nI (W p).length ≤ nI pre.length := by rw [nI_leI (by omega) (by omega)]; omega
    have hx : (W p).getD pre.length 0 = x := by rw [hw]; simp
    have hxN : x < N := b6 x (by rw [hw]; simp)
    have h4 := b4 pre.length (by omega)
    rw [hx] at h4
    have i2 : 10 * p + pre.length < 1200 := by omega
    have i3 : x < 1200 := by omega
    have hs := (r0.2.1 x hxN).1
    have e : nI (2 + tsz (pre.map (fun j => (T j, V j)))) + ((5 : Int32) + nI (T x).length) = nI (2 + tsz ((pre ++ [x]).map (fun j => (T j, V j)))) := by
      rw [show (5 : Int32) = nI 5 from rfl, nI_add, nI_add, List.map_append, tsz_app]
      congr 1
      show _ = 2 + (tsz _ + tsz [(T x, V x)])
      rw [tsz_one]
      unfold rsz
      dsimp only
      omega
    have e2 := ih (pre ++ [x]) (by rw [hw]; simp)
    rw [List.length_append, List.length_singleton] at e2
    rw [sX7_length_4]
    simp only [sX7_length_0, sX7_length_1, sX7_length_2, sX7_length_3, sX7_length_5, sX7_length_6, sX7_length_9, sX7_length_10, sX7_length_11, sX7_length_14, sX7_length_15, sX7_length_16, sX7_length_17, sX7_length_20, sX7_length_21, sX7_length_24, sX7_length_26, sX7_length_27, sX7_length_28, sX7_length_29, sX7_length_30, sX7_length_31, sX7_length_32, sX7_length_33, sX7_length_34, sX7_length_35, sX7_length_38, sX7_length_41, sX7_length_42, hp_o, hp_1, hp_2, hp_3, hp_4, hp_5, hp_6, hp_7, hp_8, hp_9, hp_10, hp_11, hp_12, hp_13, hp_14, hp_15, hp_16, wp_o, wp_j, wp_f, wp_1, wp_2, wp_3, wp_4, wp_5, wp_6, wp_7, wp_8, wp_9, wp_10, wp_11, wp_12, wp_13, wp_14, wp_15, wp_16, gf_0, pf_0, gf_1, pf_1, gf_2, pf_2, gf_3, pf_3, gf_4, pf_4, gf_5, pf_5, gf_6, pf_6, gf_7, pf_7, gf_8, pf_8, gf_9, pf_9, gf_10, pf_10, gf_11, pf_11, gf_12, pf_12, gf_13, pf_13, gf_14, pf_14, gf_15, pf_15, gf_16, pf_16, gf_17, pf_17, gf_18, pf_18, gf_19, pf_19, List.set_cons_zero, List.set_cons_succ, al_0, as_0, cl0, m8, m10, m12, m32, m40, m64, m400, m4800, bd_v, bi_v, Option.toList, List.cons_append, List.nil_append, List.length_cons, List.length_nil, Nat.reduceAdd, Nat.reduceLeDiff, ck_in, nI_add, nI_1, if_false, if_true, al_in i1 (show 120 ≤ 100000 by omega), b3, h1, al_in i2 (show 1200 ≤ 100000 by omega), h4, al_in i3 (show 1200 ≤ 100000 by omega), hs, e]
    exact e2
theorem X_length (w : WF n S) (r0 : R0 n S N T V W aS aB aU aH aD aX aM aW aT iD iA) {p : Nat} (hpn : p < n) : cl 106 [.ref m, .int (nI p)] ((hp h0 m c n jl fd aN aS aB aU aH aD aX aM aW aI aT aA aK aL aF aP), z) = some (.inl (some (.int (nI (2 + tsz (S.rec p))))), ((hp h0 m c n jl fd aN aS aB aU aH aD aX aM aW aI aT aA aK aL aF aP), z)) := by
  rw [eX7_length]
  simp only [sX7_length_0, sX7_length_1, sX7_length_2, sX7_length_3]
  exact length_l w r0 hpn (W p) [] rfl
end
