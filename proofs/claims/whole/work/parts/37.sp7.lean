/-! Shelf: reading -/
theorem rl_in {n k : Nat} {g : Nat → Option Nat} {K : Option Nat → Option am_R} (h : k < n) (hn : n ≤ 100000) : am_rl (some (.inl (3, n, .inr (.inr (.inr (.inr g)))))) (nI k) K = K (g k) := by
  unfold am_rl
  dsimp only
  rw [if_pos ⟨rfl, ix_nI h hn⟩, cl_nI (by omega)]
theorem lnr_in {n : Nat} {g : Nat → Option Nat} {K : Nat → Option am_R} : am_ln (some (.inl (3, n, .inr (.inr (.inr (.inr g)))))) K = K n := rfl
theorem rf_some (a : Nat) : va_rf (some a) = .ref a := rfl
def frI (lo hi : Nat) (h h' : Nat → Option va_E) : Prop := ∀ b, (b < lo ∨ hi ≤ b) → h' b = h b
theorem frI.r {lo hi : Nat} {h : Nat → Option va_E} : frI lo hi h h := fun _ _ => rfl
theorem frI.t {lo hi : Nat} {h h' h'' : Nat → Option va_E} (a : frI lo hi h h') (b : frI lo hi h' h'') : frI lo hi h h'' := fun x hx => (b x hx).trans (a x hx)
theorem frI.of {lo hi : Nat} {S : List Nat} {h h' : Nat → Option va_E} (a : fre S h h') (hs : ∀ x ∈ S, lo ≤ x ∧ x < hi) : frI lo hi h h' := fun b hb => a b (fun z => by have := hs b z; omega)
theorem frI.u {lo hi : Nat} {h : Nat → Option va_E} {a : Nat} {c : va_E} (h1 : lo ≤ a) (h2 : a < hi) : frI lo hi h (am_up h a c) := fun b hb => up_n (by omega)
theorem frI.w {lo hi lo' hi' : Nat} {h h' : Nat → Option va_E} (a : frI lo hi h h') (h1 : lo' ≤ lo) (h2 : hi ≤ hi') : frI lo' hi' h h' := fun b hb => a b (by omega)
def ShL (h : Nat → Option va_E) (s n : Nat) (F : Nat → Nat → Int32) (E : Nat → Nat) (tf : Nat → Int32) (D used acts : Nat) : Prop :=
  h s = some (obj 5 [.ref (s + 6), .ref (s + 1), .ref (s + 4), .int (nI D), .int (nI used), .int (nI acts)]) ∧
  (∃ g : Nat → Option Nat, h (s + 6) = some (.inl (3, n, .inr (.inr (.inr (.inr g))))) ∧ ∀ i, i < n → g i = some (s + 7 + 3 * i)) ∧
  (∃ (Fs : Nat → Int32) (es : Nat), PgL h (s + 1) Fs es ∧ ∀ j, 64 ≤ j → Fs j = 0) ∧ h (s + 4) = some (obj 4 [.ref (s + 5)]) ∧ h (s + 5) = some (ints 32 tf) ∧
  ∀ i, i < n → PgL h (s + 7 + 3 * i) (F i) (E i)
def ShS (h : Nat → Option va_E) (s n : Nat) (S : Sh) : Prop := ∃ tf : Nat → Int32, ShL h s n (fun i => pgF (S.dep i) (S.rec i)) (fun i => 2 + tsz (S.rec i)) tf S.D S.used S.acts ∧ ∀ e, e < 2 ^ S.D → tf e = nI (S.tab e)
theorem ShL.fr {h h' : Nat → Option va_E} {s n : Nat} {F : Nat → Nat → Int32} {E : Nat → Nat} {tf : Nat → Int32} {D used acts : Nat} (a : ShL h s n F E tf D used acts) (hh : ∀ b, s ≤ b → b < s + 7 + 3 * n → h' b = h b) : ShL h' s n F E tf D used acts := by
  obtain ⟨a1, ⟨g, a2, a3⟩, ⟨Fs, es, ⟨p1, p2, p3⟩, a5⟩, a6, a7, a8⟩ := a
  refine ⟨by rw [hh _ (by omega) (by omega)]; exact a1, ⟨g, by rw [hh _ (by omega) (by omega)]; exact a2, a3⟩, ⟨Fs, es, ⟨by rw [hh _ (by omega) (by omega)]; exact p1, by rw [hh _ (by omega) (by omega)]; exact p2, by rw [hh _ (by omega) (by omega)]; exact p3⟩, a5⟩, by rw [hh _ (by omega) (by omega)]; exact a6, by rw [hh _ (by omega) (by omega)]; exact a7, fun i hi => ?_⟩
  obtain ⟨q1, q2, q3⟩ := a8 i hi
  exact ⟨by rw [hh _ (by omega) (by omega)]; exact q1, by rw [hh _ (by omega) (by omega)]; exact q2, by rw [hh _ (by omega) (by omega)]; exact q3⟩
theorem ShS.fr {h h' : Nat → Option va_E} {s n : Nat} {S : Sh} (a : ShS h s n S) (hh : ∀ b, s ≤ b → b < s + 7 + 3 * n → h' b = h b) : ShS h' s n S := by
  obtain ⟨tf, a1, a2⟩ := a
  exact ⟨tf, a1.fr hh, a2⟩
section
variable {h : Nat → Option va_E} {z : Nat × Nat × Nat} {s n : Nat} {F : Nat → Nat → Int32} {E : Nat → Nat} {tf : Nat → Int32} {D used acts : Nat}
theorem Shelf_page (a : ShL h s n F E tf D used acts) (hn : n ≤ 40) {k : Nat} (hk : k < n) : cl 58 [.ref s, .int (nI k)] (h, z) = some (.inl (some (.ref (s + 7 + 3 * k))), (h, z)) := by
  obtain ⟨a1, ⟨g, a2, a3⟩, -⟩ := a
  have h1 : ¬ (nI n ≤ nI k) := by rw [nI_leI (by omega) (by omega)]; omega
  have h2 : ¬ (nI k < 0) := nI_pos (by omega)
  rw [eX5_page]
  simp only [sX5_page_0, sX5_page_1, sX5_page_4, sX5_page_5, sX5_page_6, sX5_page_9, sX5_page_10, sX5_page_13, sX5_page_14, sX5_page_17, sX5_page_18, sX5_page_19, sX5_page_22, sX5_page_23, sX5_page_26, a1, a2, gf_0, gf_1, gf_2, gf_3, gf_4, gf_5, pf_0, pf_1, pf_2, pf_3, pf_4, pf_5, List.set_cons_zero, List.set_cons_succ, lnr_in, h1, h2, if_false, rl_in hk (show n ≤ 100000 by omega), a3 k hk, rf_some]
theorem Shelf_size (a : ShL h s n F E tf D used acts) : cl 57 [.ref s] (h, z) = some (.inl (some (.int (nI n))), (h, z)) := by
  obtain ⟨a1, ⟨g, a2, a3⟩, -⟩ := a
  rw [eX5_size]
  simp only [sX5_size_0, sX5_size_1, sX5_size_4, sX5_size_5, a1, a2, gf_0, gf_1, gf_2, gf_3, gf_4, gf_5, pf_0, pf_1, pf_2, pf_3, pf_4, pf_5, List.set_cons_zero, List.set_cons_succ, lnr_in]
theorem Shelf_depth (a : ShL h s n F E tf D used acts) : cl 72 [.ref s] (h, z) = some (.inl (some (.int (nI D))), (h, z)) := by
  rw [eX5_depth]
  simp only [sX5_depth_0, sX5_depth_1, sX5_depth_4, a.1, gf_0, gf_1, gf_2, gf_3, gf_4, gf_5, pf_0, pf_1, pf_2, pf_3, pf_4, pf_5, List.set_cons_zero, List.set_cons_succ]
theorem Shelf_used (a : ShL h s n F E tf D used acts) : cl 73 [.ref s] (h, z) = some (.inl (some (.int (nI used))), (h, z)) := by
  rw [eX5_used]
  simp only [sX5_used_0, sX5_used_1, sX5_used_4, a.1, gf_0, gf_1, gf_2, gf_3, gf_4, gf_5, pf_0, pf_1, pf_2, pf_3, pf_4, pf_5, List.set_cons_zero, List.set_cons_succ]
theorem Shelf_acts (a : ShL h s n F E tf D used acts) : cl 59 [.ref s] (h, z) = some (.inl (some (.int (nI acts))), (h, z)) := by
  rw [eX5_acts]
  simp only [sX5_acts_0, sX5_acts_1, sX5_acts_4, a.1, gf_0, gf_1, gf_2, gf_3, gf_4, gf_5, pf_0, pf_1, pf_2, pf_3, pf_4, pf_5, List.set_cons_zero, List.set_cons_succ]
theorem sh1 : ∀ D, D ≤ 5 → (1 : Int32) <<< (nI D &&& 31) = nI (2 ^ D) := by decide
theorem Shelf_entries (a : ShL h s n F E tf D used acts) (hD : D ≤ 5) : cl 63 [.ref s] (h, z) = some (.inl (some (.int (nI (2 ^ D)))), (h, z)) := by
  rw [eX5_entries]
  simp only [sX5_entries_0, sX5_entries_1, sX5_entries_2, sX5_entries_5, sX5_entries_6, a.1, gf_0, gf_1, gf_2, gf_3, gf_4, gf_5, pf_0, pf_1, pf_2, pf_3, pf_4, pf_5, List.set_cons_zero, List.set_cons_succ, sh1 D hD]
theorem Shelf_pageAtEntry (a : ShL h s n F E tf D used acts) {k : Nat} (hk : k < 32) : cl 71 [.ref s, .int (nI k)] (h, z) = some (.inl (some (.int (tf k))), (h, z)) := by
  rw [eX5_pageAtEntry]
  simp only [sX5_pageAtEntry_0, sX5_pageAtEntry_1, sX5_pageAtEntry_4, sX5_pageAtEntry_5, sX5_pageAtEntry_8, a.1, a.2.2.2.1, gf_0, gf_1, gf_2, gf_3, gf_4, gf_5, pf_0, pf_1, pf_2, pf_3, pf_4, pf_5, List.set_cons_zero, List.set_cons_succ, bd_v, bi_v, Option.toList, List.cons_append, List.nil_append, List.length_cons, List.length_nil, Nat.reduceAdd, Nat.reduceLeDiff, ck_in, nI_add, nI_1, if_false, if_true, Row_get a.2.2.2.1 a.2.2.2.2.1 (by omega) hk]
theorem msk_e : ∀ D, D ≤ 5 → nI (2 ^ D) - 1 = msk D := by decide
theorem pow32 {D : Nat} (hD : D ≤ 5) : 2 ^ D ≤ 32 := Nat.pow_le_pow_right (by omega) hD
theorem Shelf_pageNumberFor (a : ShL h s n F E tf D used acts) (hD : D ≤ 5) (hh : Int32) : cl 62 [.ref s, .int hh] (h, z) = some (.inl (some (.int (tf (un hh % 2 ^ D)))), (h, z)) := by
  have h1 := Nat.mod_lt (un hh) (Nat.two_pow_pos D)
  have h2 := pow32 hD
  rw [eX5_pageNumberFor]
  simp only [sX5_pageNumberFor_0, sX5_pageNumberFor_1, sX5_pageNumberFor_4, sX5_pageNumberFor_5, sX5_pageNumberFor_6, sX5_pageNumberFor_9, sX5_pageNumberFor_10, sX5_pageNumberFor_11, sX5_pageNumberFor_12, sX5_pageNumberFor_15, a.1, a.2.2.2.1, gf_0, gf_1, gf_2, gf_3, gf_4, gf_5, pf_0, pf_1, pf_2, pf_3, pf_4, pf_5, List.set_cons_zero, List.set_cons_succ, bd_v, bi_v, Option.toList, List.cons_append, List.nil_append, List.length_cons, List.length_nil, Nat.reduceAdd, Nat.reduceLeDiff, ck_in, nI_add, nI_1, if_false, if_true, Shelf_entries a hD, msk_e D hD, and_msk hh (show D < 31 by omega), Row_get a.2.2.2.1 a.2.2.2.2.1 (by omega) (show un hh % 2 ^ D < 32 by omega)]
end
section
variable {h : Nat → Option va_E} {z : Nat × Nat × Nat} {s n : Nat} {S : Sh}
theorem Shelf_pn (a : ShS h s n S) (w : WF n S) (hh : Int32) : cl 62 [.ref s, .int hh] (h, z) = some (.inl (some (.int (nI (S.at hh)))), (h, z)) := by
  obtain ⟨tf, a1, a2⟩ := a
  rw [Shelf_pageNumberFor a1 w.1, a2 _ (Nat.mod_lt _ (Nat.two_pow_pos _))]
  rfl
theorem Shelf_pageFor (a : ShS h s n S) (w : WF n S) (hh : Int32) : cl 61 [.ref s, .int hh] (h, z) = some (.inl (some (.ref (s + 7 + 3 * S.at hh))), (h, z)) := by
  have h1 := S.at_lt w hh
  have h2 := w.2.1
  have h3 := w.2.2.2.1
  have hp := Shelf_pn (z := z) a w hh
  obtain ⟨tf, a1, a2⟩ := a
  rw [eX5_pageFor]
  simp only [sX5_pageFor_0, sX5_pageFor_1, sX5_pageFor_2, sX5_pageFor_3, sX5_pageFor_6, sX5_pageFor_9, a1.1, gf_0, gf_1, gf_2, gf_3, gf_4, gf_5, pf_0, pf_1, pf_2, pf_3, pf_4, pf_5, List.set_cons_zero, List.set_cons_succ, bd_v, bi_v, Option.toList, List.cons_append, List.nil_append, List.length_cons, List.length_nil, Nat.reduceAdd, Nat.reduceLeDiff, ck_in, nI_add, nI_1, if_false, if_true, hp, Shelf_page a1 h3 (show S.at hh < n by have : S.used ≤ n := h2; omega)]
theorem ShS.pg (a : ShS h s n S) {p : Nat} (hp : p < n) : ∃ t : Nat → Int32, PgL h (s + 7 + 3 * p) (pgG (S.dep p) (S.rec p) t) (2 + tsz (S.rec p)) ∧ (∀ j, 64 ≤ j → t j = 0) ∧ pgF (S.dep p) (S.rec p) = pgG (S.dep p) (S.rec p) t := by
  obtain ⟨tf, a1, a2⟩ := a
  have h1 := a1.2.2.2.2.2 p hp
  obtain ⟨t, h2, h3⟩ := pgF_pg (S.dep p) (S.rec p)
  refine ⟨t, ?_, h3, h2⟩
  rw [← h2]
  exact h1
theorem Shelf_holds (a : ShS h s n S) (w : WF n S) {nb nr na l : Nat} {f : Nat → Int32} (hnm : NameAt h nb nr na l f) : cl 68 [.ref s, .ref nb] (h, z) = some (.inl (some (.int (if nmof l f ∈ (S.rec (S.at (hsh (nmof l f)))).map Prod.fst then 1 else 0))), (h, z)) := by
  have h1 := S.at_lt w (hsh (nmof l f))
  have h2 : S.used ≤ n := w.2.1
  have hpf := Shelf_pageFor (z := z) a w (hsh (nmof l f))
  obtain ⟨t, hp, -, -⟩ := a.pg (p := S.at (hsh (nmof l f))) (by omega)
  obtain ⟨g1, g2⟩ := Page_placeOf (z := z) hp (w.2.2.2.2.2.1 _) hnm
  have hhs := Name_hash (z := z) hnm
  rw [← hsh_nmof] at hhs
  obtain ⟨tf, a1, a2⟩ := a
  rw [eX5_holds]
  by_cases hm : nmof l f ∈ (S.rec (S.at (hsh (nmof l f)))).map Prod.fst
  · rw [if_pos hm]
    obtain ⟨x, hx, hxe⟩ := List.mem_map.mp hm
    obtain ⟨s1, s2, he, hns⟩ : ∃ s1 s2, S.rec (S.at (hsh (nmof l f))) = s1 ++ x :: s2 ∧ nmof l f ∉ s1.map Prod.fst := by
      obtain ⟨s1, s2, he⟩ := List.append_of_mem hx
      refine ⟨s1, s2, he, fun hmm => ?_⟩
      have hnd := w.2.2.2.2.2.2.2.2.2.1 (S.at (hsh (nmof l f)))
      rw [he, List.map_append, List.map_cons, List.nodup_append] at hnd
      exact hnd.2.2 _ hmm _ List.mem_cons_self hxe.symm
    have ht : 2 + tsz s1 ≤ 60 := by have h6 : 2 + tsz (S.rec (S.at (hsh (nmof l f)))) ≤ 60 := w.2.2.2.2.2.1 _; rw [he, tsz_app] at h6; omega
    have hne : ¬ (nI (2 + tsz s1) = (-1 : Int32)) := by intro e; have := nI_toInt (n := 2 + tsz s1) (by omega); rw [e] at this; revert this; simp; omega
    simp only [sX5_holds_0, sX5_holds_1, sX5_holds_2, sX5_holds_5, sX5_holds_8, sX5_holds_9, sX5_holds_12, sX5_holds_13, sX5_holds_16, sX5_holds_17, sX5_holds_20, sX5_holds_21, sX5_holds_21t, a1.1, hnm.1, hp.1, gf_0, gf_1, gf_2, gf_3, gf_4, gf_5, pf_0, pf_1, pf_2, pf_3, pf_4, pf_5, List.set_cons_zero, List.set_cons_succ, bd_v, bi_v, Option.toList, List.cons_append, List.nil_append, List.length_cons, List.length_nil, Nat.reduceAdd, Nat.reduceLeDiff, ck_in, nI_add, nI_1, if_false, if_true, hhs, hpf, g2 s1 s2 x he hxe hns, hne]
  · rw [if_neg hm]
    simp only [sX5_holds_0, sX5_holds_1, sX5_holds_2, sX5_holds_5, sX5_holds_8, sX5_holds_9, sX5_holds_12, sX5_holds_13, sX5_holds_16, sX5_holds_17, sX5_holds_20, sX5_holds_21, sX5_holds_21t, a1.1, hnm.1, hp.1, gf_0, gf_1, gf_2, gf_3, gf_4, gf_5, pf_0, pf_1, pf_2, pf_3, pf_4, pf_5, List.set_cons_zero, List.set_cons_succ, bd_v, bi_v, Option.toList, List.cons_append, List.nil_append, List.length_cons, List.length_nil, Nat.reduceAdd, Nat.reduceLeDiff, ck_in, nI_add, nI_1, if_false, if_true, hhs, hpf, g1 hm]
end
