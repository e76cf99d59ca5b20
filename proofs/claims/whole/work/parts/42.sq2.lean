/-! Shelf: accept -/
section
variable {h : Nat → Option va_E} {z : Nat × Nat × Nat} {s n : Nat} {S : Sh}
def outI (s n b : Nat) : Prop := b < s ∨ s + 7 + 3 * n ≤ b
theorem NameAt.fr {h h' : Nat → Option va_E} {b r a l lo hi : Nat} {f : Nat → Int32} (hb : NameAt h b r a l f) (hf : frI lo hi h h') (h0 : b < lo ∨ hi ≤ b) (h1 : r < lo ∨ hi ≤ r) (h2 : a < lo ∨ hi ≤ a) : NameAt h' b r a l f := ⟨(hf _ h0).trans hb.1, (hf _ h1).trans hb.2.1, (hf _ h2).trans hb.2.2.1, hb.2.2.2⟩
theorem ShS.head (a : ShS h s n S) : h s = some (obj 5 [.ref (s + 6), .ref (s + 1), .ref (s + 4), .int (nI S.D), .int (nI S.used), .int (nI S.acts)]) := by
  obtain ⟨tf, a1, -⟩ := a
  exact a1.1
theorem ShS.put (a : ShS h s n S) {h' : Nat → Option va_E} {p : Nat} {rs : List Rc} (hp : p < n) (hf : fre [s + 7 + 3 * p, s + 7 + 3 * p + 2] h h') (hg : PgL h' (s + 7 + 3 * p) (pgF (S.dep p) rs) (2 + tsz rs)) :
    ShS (am_up h' s (obj 5 [.ref (s + 6), .ref (s + 1), .ref (s + 4), .int (nI S.D), .int (nI S.used), .int (nI (S.acts + 1))])) s n (S.put p rs) := by
  obtain ⟨tf, a1, a2⟩ := a
  obtain ⟨Fs, es, hps, hFs⟩ := a1.2.2.1
  have b := a1.pages (h' := h') (F' := fun i => pgF ((S.put p rs).dep i) ((S.put p rs).rec i)) (E' := fun i => 2 + tsz ((S.put p rs).rec i)) (hf _ (by simp; omega)) (hf _ (by simp; omega)) (hf _ (by simp; omega)) (hf _ (by simp; omega))
    ⟨Fs, es, hps.fr hf (by simp; omega) (by simp; omega) (by simp; omega), hFs⟩ (fun i hi => by
      show PgL h' _ (pgF (S.dep i) (updR S.rec p rs i)) (2 + tsz (updR S.rec p rs i))
      by_cases e : i = p
      · subst e; rw [updR_s]; exact hg
      · rw [updR_n e]; exact (a1.2.2.2.2.2 i hi).fr hf (by simp; omega) (by simp; omega) (by simp; omega))
  exact ⟨tf, b.head S.D S.used (S.acts + 1), a2⟩
theorem accept_tail (a : ShS h s n S) (w : WF n S) {nb nr na l : Nat} {f : Nat → Int32} (hnm : NameAt h nb nr na l f) (o1 : nb < s ∨ s + 7 + 3 * n ≤ nb) (o2 : na < s ∨ s + 7 + 3 * n ≤ na) (hfit : 2 + tsz (S.rec (S.at (hsh (nmof l f)))) + (l + 5) ≤ 60) (v : Int32) (w4 w5 w6 w7 : Value) :
    ∃ h', rn 60 92 [.ref s, .ref nb, .int v, .int (hsh (nmof l f)), w4, w5, w6, w7] [] (h, z) = some (.inl (some (.int 1)), (h', z)) ∧ ShS h' s n (S.put (S.at (hsh (nmof l f))) (S.rec (S.at (hsh (nmof l f))) ++ [(nmof l f, v)])) ∧ frI s (s + 7 + 3 * n) h h' := by
  have h1 := S.at_lt w (hsh (nmof l f))
  have h2 : S.used ≤ n := w.2.1
  have hpf := Shelf_pageFor (z := z) a w (hsh (nmof l f))
  obtain ⟨t, hp, ht, -⟩ := a.pg (p := S.at (hsh (nmof l f))) (by omega)
  obtain ⟨h', c1, c2, c3⟩ := Page_append (z := z) hp ht hnm (by omega) (by omega) (by omega) hfit v
  have q := a.put (rs := S.rec (S.at (hsh (nmof l f))) ++ [(nmof l f, v)]) (by omega) c3 c2
  have hs := a.head
  have hs' : h' s = some (obj 5 [.ref (s + 6), .ref (s + 1), .ref (s + 4), .int (nI S.D), .int (nI S.used), .int (nI S.acts)]) := by rw [c3 _ (by simp; omega)]; exact hs
  refine ⟨_, ?_, q, (frI.of c3 (by simp; omega)).t (frI.u (by omega) (by omega))⟩
  rw [sX5_accept_92]
  simp only [sX5_accept_0, sX5_accept_1, sX5_accept_4, sX5_accept_5, sX5_accept_6, sX5_accept_7, sX5_accept_10, sX5_accept_12, sX5_accept_14, sX5_accept_15, sX5_accept_18, sX5_accept_20, sX5_accept_22, sX5_accept_23, sX5_accept_26, sX5_accept_28, sX5_accept_30, sX5_accept_31, sX5_accept_34, sX5_accept_35, sX5_accept_35i, sX5_accept_36, sX5_accept_39, sX5_accept_40, sX5_accept_41, sX5_accept_44, sX5_accept_45, sX5_accept_45t, sX5_accept_46, sX5_accept_47, sX5_accept_49, sX5_accept_50, sX5_accept_51, sX5_accept_54, sX5_accept_57, sX5_accept_59, sX5_accept_61, sX5_accept_62, sX5_accept_65, sX5_accept_66, sX5_accept_66t, sX5_accept_67, sX5_accept_68, sX5_accept_70, sX5_accept_72, sX5_accept_74, sX5_accept_77, sX5_accept_78, sX5_accept_79, sX5_accept_80, sX5_accept_83, sX5_accept_86, sX5_accept_89, sX5_accept_93, sX5_accept_94, sX5_accept_97, sX5_accept_98, sX5_accept_99, sX5_accept_102, sX5_accept_103, sX5_accept_103i, sX5_accept_104, sX5_accept_107, sX5_accept_108, sX5_accept_109, sX5_accept_112, sX5_accept_113, sX5_accept_113t, hs, hs', hp.1, gf_0, gf_1, gf_2, gf_3, gf_4, gf_5, pf_0, pf_1, pf_2, pf_3, pf_4, pf_5, List.set_cons_zero, List.set_cons_succ, bd_v, bi_v, Option.toList, List.cons_append, List.nil_append, List.length_cons, List.length_nil, Nat.reduceAdd, Nat.reduceLeDiff, ck_in, nI_add, nI_1, if_false, if_true, hpf, c1]
theorem accept_l {nb nr na l : Nat} {f : Nat → Int32} (o1 : nb < s ∨ s + 7 + 3 * n ≤ nb) (o2 : na < s ∨ s + 7 + 3 * n ≤ na) (o3 : nr < s ∨ s + 7 + 3 * n ≤ nr) (v : Int32) {u d s' : Nat} {rs : List Rc} (hs' : s' ≤ 6) (w4 w5 : Value) : ∀ (m k : Nat) (S : Sh) (h : Nat → Option va_E), ShS h s n S → WF n S → NameAt h nb nr na l f → S.dep (S.at (hsh (nmof l f))) = d + k → S.rec (S.at (hsh (nmof l f))) = rs.filter (kin (hsh (nmof l f)) (d + k)) → S.used = u + k → sfr n u d (l + 5) (hsh (nmof l f)) rs m k = some s' →
    ∃ h' S', rn 60 70 [.ref s, .ref nb, .int v, .int (hsh (nmof l f)), w4, w5, .int (nI s'), .int (nI k)] [] (h, z) = some (.inl (some (.int 1)), (h', z)) ∧ acc n (nmof l f) v m S = some S' ∧ ShS h' s n S' ∧ frI s (s + 7 + 3 * n) h h' ∧ k ≤ s' := by
  intro m
  induction m with
  | zero => intro k S h a w hnm h1 h2 h3 h4; cases h4
  | succ m ih =>
    intro k S h a w hnm h1 h2 h3 h4
    have h5 : S.D ≤ 5 := w.1
    have h6 : S.used ≤ n := w.2.1
    have h7 : S.dep (S.at (hsh (nmof l f))) ≤ S.D := w.2.2.2.2.2.2.1 _
    rw [sfr, if_neg (by omega), if_neg (by omega)] at h4
    rw [acc, nmof_len]
    by_cases c1 : 2 + tsz (rs.filter (kin (hsh (nmof l f)) (d + k))) + (l + 5) ≤ 60
    · rw [if_pos c1] at h4
      cases h4
      rw [if_pos (by rw [h2]; exact c1)]
      obtain ⟨h', g1, g2, g3⟩ := accept_tail (z := z) a w hnm o1 o2 (by rw [h2]; exact c1) v w4 w5 (.int (nI s')) (.int (nI s'))
      refine ⟨h', _, ?_, rfl, g2, g3, Nat.le_refl _⟩
      have q1 : nI s' ≤ nI s' := nI_le (Nat.le_refl _) (by omega)
      rw [sX5_accept_70]
      simp only [sX5_accept_72, sX5_accept_74, q1, if_true]
      exact g1
    · rw [if_neg c1] at h4
      rw [if_neg (by rw [h2]; exact c1)]
      have c2 : S.dep (S.at (hsh (nmof l f))) < 5 ∧ S.used < n := by
        cases m with
        | zero => cases h4
        | succ m =>
          rw [sfr] at h4
          by_cases q1 : 5 < d + (k + 1)
          · rw [if_pos q1] at h4; cases h4
          · rw [if_neg q1] at h4
            by_cases q2 : n < u + (k + 1)
            · rw [if_pos q2] at h4; cases h4
            · exact ⟨by omega, by omega⟩
      rw [if_pos c2]
      obtain ⟨g1, g2⟩ := split_kin2 w (hsh (nmof l f)) c2.2 h1 c2.1 h2
      obtain ⟨hx, k1, k2, k3⟩ := Shelf_split (z := z) a w (S.at_lt w (hsh (nmof l f))) c2.2 c2.1
      obtain ⟨h', S', y1, y2, y3, y4, y5⟩ := ih (k + 1) _ hx k2 (w.split (S.at_lt w _) c2.2 c2.1) (hnm.fr k3 o1 o3 o2) g1 g2 (by show S.used + 1 = _; omega) h4
      refine ⟨h', S', ?_, y2, y3, k3.t y4, by omega⟩
      have q1 : ¬ nI s' ≤ nI k := by rw [nI_leI (by omega) (by omega)]; omega
      rw [sX5_accept_70]
      simp only [sX5_accept_0, sX5_accept_1, sX5_accept_4, sX5_accept_5, sX5_accept_6, sX5_accept_7, sX5_accept_10, sX5_accept_12, sX5_accept_14, sX5_accept_15, sX5_accept_18, sX5_accept_20, sX5_accept_22, sX5_accept_23, sX5_accept_26, sX5_accept_28, sX5_accept_30, sX5_accept_31, sX5_accept_34, sX5_accept_35, sX5_accept_35i, sX5_accept_36, sX5_accept_39, sX5_accept_40, sX5_accept_41, sX5_accept_44, sX5_accept_45, sX5_accept_45t, sX5_accept_46, sX5_accept_47, sX5_accept_49, sX5_accept_50, sX5_accept_51, sX5_accept_54, sX5_accept_57, sX5_accept_59, sX5_accept_61, sX5_accept_62, sX5_accept_65, sX5_accept_66, sX5_accept_66t, sX5_accept_67, sX5_accept_68, sX5_accept_72, sX5_accept_74, sX5_accept_77, sX5_accept_78, sX5_accept_79, sX5_accept_80, sX5_accept_83, sX5_accept_86, sX5_accept_89, sX5_accept_92, sX5_accept_93, sX5_accept_94, sX5_accept_97, sX5_accept_98, sX5_accept_99, sX5_accept_102, sX5_accept_103, sX5_accept_103i, sX5_accept_104, sX5_accept_107, sX5_accept_108, sX5_accept_109, sX5_accept_112, sX5_accept_113, sX5_accept_113t, q1, gf_0, gf_1, gf_2, gf_3, gf_4, gf_5, pf_0, pf_1, pf_2, pf_3, pf_4, pf_5, List.set_cons_zero, List.set_cons_succ, bd_v, bi_v, Option.toList, List.cons_append, List.nil_append, List.length_cons, List.length_nil, Nat.reduceAdd, Nat.reduceLeDiff, ck_in, nI_add, nI_1, if_false, if_true, a.head, Shelf_pn a w, k1]
      exact y1
theorem Shelf_accept (a : ShS h s n S) (w : WF n S) {nb nr na l : Nat} {f : Nat → Int32} (hnm : NameAt h nb nr na l f) (o1 : nb < s ∨ s + 7 + 3 * n ≤ nb) (o2 : na < s ∨ s + 7 + 3 * n ≤ na) (o3 : nr < s ∨ s + 7 + 3 * n ≤ nr) (v : Int32) :
    (accept n (nmof l f) v S = none → cl 60 [.ref s, .ref nb, .int v] (h, z) = some (.inl (some (.int 0)), (h, z))) ∧
    (∀ S', accept n (nmof l f) v S = some S' → ∃ h', cl 60 [.ref s, .ref nb, .int v] (h, z) = some (.inl (some (.int 1)), (h', z)) ∧ ShS h' s n S' ∧ frI s (s + 7 + 3 * n) h h') := by
  have h1 := S.at_lt w (hsh (nmof l f))
  have h2 : S.used ≤ n := w.2.1
  have hn : n ≤ 40 := w.2.2.2.1
  have h5 : S.D ≤ 5 := w.1
  have h7 : S.dep (S.at (hsh (nmof l f))) ≤ S.D := w.2.2.2.2.2.2.1 _
  have hl := hnm.2.2.2
  have hpf := Shelf_pageFor (z := z) a w (hsh (nmof l f))
  obtain ⟨t, hp, ht, hF⟩ := a.pg (p := S.at (hsh (nmof l f))) (by omega)
  have h6 : 2 + tsz (S.rec (S.at (hsh (nmof l f)))) ≤ 60 := w.2.2.2.2.2.1 _
  obtain ⟨g1, g2⟩ := Page_placeOf (z := z) hp h6 hnm
  have hhs := Name_hash (z := z) hnm
  rw [← hsh_nmof] at hhs
  have hrs := Name_recordSize (z := z) hnm
  have hd := a.head
  by_cases hm : nmof l f ∈ (S.rec (S.at (hsh (nmof l f)))).map Prod.fst
  · unfold accept
    rw [if_pos hm]
    refine ⟨fun hS => (by cases hS), fun S' hS => ?_⟩
    cases hS
    obtain ⟨s1, s2, v0, he, hn1, hn2⟩ := find_split (w.2.2.2.2.2.2.2.2.2.1 _) hm
    have h6' := h6
    rw [he, tsz_app, tsz] at h6'
    have e3 : rsz (nmof l f, v0) = (nmof l f).length + 5 := rfl
    have hlx : pgG (S.dep (S.at (hsh (nmof l f)))) (S.rec (S.at (hsh (nmof l f)))) t (2 + tsz s1) = nI (nmof l f).length := by
      rw [he]; exact pg_len (x := (nmof l f, v0)) (by rw [← he]; exact h6)
    have hrn := Page_renumber (z := z) hp (p := 2 + tsz s1) (m := (nmof l f).length) (by omega) hlx v
    have e4 : sealb (putn (pgG (S.dep (S.at (hsh (nmof l f)))) (S.rec (S.at (hsh (nmof l f)))) t) (2 + tsz s1 + 1 + (nmof l f).length) v) = pgF (S.dep (S.at (hsh (nmof l f)))) (renum (nmof l f) v (S.rec (S.at (hsh (nmof l f))))) := by
      rw [he, pg_renum (by rw [← he]; exact h6), seal_pg ht, renum_at hn1 hn2]
    rw [e4] at hrn
    have hp2 := hp.row (pgF (S.dep (S.at (hsh (nmof l f)))) (renum (nmof l f) v (S.rec (S.at (hsh (nmof l f))))))
    have hp3 := hp2
    rw [← renum_tsz (nmof l f) v] at hp3
    have hf : fre [s + 7 + 3 * S.at (hsh (nmof l f)), s + 7 + 3 * S.at (hsh (nmof l f)) + 2] h (am_up h (s + 7 + 3 * S.at (hsh (nmof l f)) + 2) (ints 64 (pgF (S.dep (S.at (hsh (nmof l f)))) (renum (nmof l f) v (S.rec (S.at (hsh (nmof l f)))))))) := fre.u (by simp)
    have q := a.put (by omega) hf hp3
    refine ⟨_, ?_, q, (frI.u (by omega) (by omega)).t (frI.u (by omega) (by omega))⟩
    rw [eX5_accept]
    simp only [sX5_accept_0, sX5_accept_1, sX5_accept_4, sX5_accept_5, sX5_accept_6, sX5_accept_7, sX5_accept_10, sX5_accept_12, sX5_accept_14, sX5_accept_15, sX5_accept_18, sX5_accept_20, sX5_accept_22, sX5_accept_23, sX5_accept_26, sX5_accept_28, sX5_accept_30, sX5_accept_31, sX5_accept_34, sX5_accept_35, sX5_accept_35i, sX5_accept_36, sX5_accept_39, sX5_accept_40, sX5_accept_41, sX5_accept_44, sX5_accept_45, sX5_accept_45t, sX5_accept_46, sX5_accept_47, sX5_accept_49, sX5_accept_50, sX5_accept_51, sX5_accept_54, sX5_accept_57, sX5_accept_59, sX5_accept_61, sX5_accept_62, sX5_accept_65, sX5_accept_66, sX5_accept_66t, sX5_accept_67, sX5_accept_68, sX5_accept_70, sX5_accept_72, sX5_accept_74, sX5_accept_77, sX5_accept_78, sX5_accept_79, sX5_accept_80, sX5_accept_83, sX5_accept_86, sX5_accept_89, sX5_accept_92, sX5_accept_93, sX5_accept_94, sX5_accept_97, sX5_accept_98, sX5_accept_99, sX5_accept_102, sX5_accept_103, sX5_accept_103i, sX5_accept_104, sX5_accept_107, sX5_accept_108, sX5_accept_109, sX5_accept_112, sX5_accept_113, sX5_accept_113t, hd, hnm.1, hp.1, gf_0, gf_1, gf_2, gf_3, gf_4, gf_5, pf_0, pf_1, pf_2, pf_3, pf_4, pf_5, List.set_cons_zero, List.set_cons_succ, bd_v, bi_v, Option.toList, List.cons_append, List.nil_append, List.length_cons, List.length_nil, Nat.reduceAdd, Nat.reduceLeDiff, ck_in, nI_add, nI_1, if_false, if_true, hhs, hpf, g2 s1 s2 _ he rfl hn1, n2_ne (show 2 + tsz s1 ≤ 100 by omega), not_false_eq_true, hrn, up_n (show s ≠ s + 7 + 3 * S.at (hsh (nmof l f)) + 2 by omega)]
  · have hsf : ∀ σz, cl 64 [.ref s, .ref (s + 7 + 3 * S.at (hsh (nmof l f))), .int (hsh (nmof l f)), .int (nI (l + 5))] (h, σz) = some (.inl (some (.int (oI (sfr n S.used (S.dep (S.at (hsh (nmof l f)))) (l + 5) (hsh (nmof l f)) (S.rec (S.at (hsh (nmof l f)))) 6 0)))), (h, σz)) := by
      intro σz
      obtain ⟨tf, a1, a2⟩ := a
      exact Shelf_splitsFor a1 hn (by omega) hp h6 (by omega) (by omega) _
    unfold accept
    rw [if_neg hm]
    have k0 := at_kin w (hsh (nmof l f))
    cases hr : sfr n S.used (S.dep (S.at (hsh (nmof l f)))) (l + 5) (hsh (nmof l f)) (S.rec (S.at (hsh (nmof l f)))) 6 0 with
    | none =>
      have hno := acc_none (v := v) (nm := nmof l f) 6 0 S w rfl k0 rfl (by rw [nmof_len]; exact hr)
      rw [hno]
      refine ⟨fun _ => ?_, fun S' hS => by cases hS⟩
      rw [eX5_accept]
      simp only [sX5_accept_0, sX5_accept_1, sX5_accept_4, sX5_accept_5, sX5_accept_6, sX5_accept_7, sX5_accept_10, sX5_accept_12, sX5_accept_14, sX5_accept_15, sX5_accept_18, sX5_accept_20, sX5_accept_22, sX5_accept_23, sX5_accept_26, sX5_accept_28, sX5_accept_30, sX5_accept_31, sX5_accept_34, sX5_accept_35, sX5_accept_35i, sX5_accept_36, sX5_accept_39, sX5_accept_40, sX5_accept_41, sX5_accept_44, sX5_accept_45, sX5_accept_45t, sX5_accept_46, sX5_accept_47, sX5_accept_49, sX5_accept_50, sX5_accept_51, sX5_accept_54, sX5_accept_57, sX5_accept_59, sX5_accept_61, sX5_accept_62, sX5_accept_65, sX5_accept_66, sX5_accept_66t, sX5_accept_67, sX5_accept_68, sX5_accept_70, sX5_accept_72, sX5_accept_74, sX5_accept_77, sX5_accept_78, sX5_accept_79, sX5_accept_80, sX5_accept_83, sX5_accept_86, sX5_accept_89, sX5_accept_92, sX5_accept_93, sX5_accept_94, sX5_accept_97, sX5_accept_98, sX5_accept_99, sX5_accept_102, sX5_accept_103, sX5_accept_103i, sX5_accept_104, sX5_accept_107, sX5_accept_108, sX5_accept_109, sX5_accept_112, sX5_accept_113, sX5_accept_113t, hd, hnm.1, hp.1, gf_0, gf_1, gf_2, gf_3, gf_4, gf_5, pf_0, pf_1, pf_2, pf_3, pf_4, pf_5, List.set_cons_zero, List.set_cons_succ, bd_v, bi_v, Option.toList, List.cons_append, List.nil_append, List.length_cons, List.length_nil, Nat.reduceAdd, Nat.reduceLeDiff, ck_in, nI_add, nI_1, if_false, if_true, hhs, hpf, g1 hm, not_true_eq_false, hrs, hsf, hr, oI]
    | some s' =>
      have hs6 : s' ≤ 5 := by
        have : ∀ m k, sfr n S.used (S.dep (S.at (hsh (nmof l f)))) (l + 5) (hsh (nmof l f)) (S.rec (S.at (hsh (nmof l f)))) m k = some s' → s' ≤ 5 := by
          intro m
          induction m with
          | zero => intro k hk; cases hk
          | succ m ih =>
            intro k hk
            rw [sfr] at hk
            by_cases q1 : 5 < S.dep (S.at (hsh (nmof l f))) + k
            · rw [if_pos q1] at hk; cases hk
            · rw [if_neg q1] at hk
              by_cases q2 : n < S.used + k
              · rw [if_pos q2] at hk; cases hk
              · rw [if_neg q2] at hk
                by_cases q3 : 2 + tsz ((S.rec (S.at (hsh (nmof l f)))).filter (kin (hsh (nmof l f)) (S.dep (S.at (hsh (nmof l f))) + k))) + (l + 5) ≤ 60
                · rw [if_pos q3] at hk; cases hk; omega
                · rw [if_neg q3] at hk; exact ih _ hk
        exact this 6 0 hr
      obtain ⟨h', S', y1, y2, y3, y4, -⟩ := accept_l (z := z) o1 o2 o3 v (by omega) (.ref (s + 7 + 3 * S.at (hsh (nmof l f)))) (.int (-1)) 6 0 S h a w hnm rfl k0 rfl hr
      rw [y2]
      refine ⟨fun hS => (by cases hS), fun S2 hS => ?_⟩
      cases hS
      refine ⟨h', ?_, y3, y4⟩
      rw [eX5_accept]
      simp only [sX5_accept_0, sX5_accept_1, sX5_accept_4, sX5_accept_5, sX5_accept_6, sX5_accept_7, sX5_accept_10, sX5_accept_12, sX5_accept_14, sX5_accept_15, sX5_accept_18, sX5_accept_20, sX5_accept_22, sX5_accept_23, sX5_accept_26, sX5_accept_28, sX5_accept_30, sX5_accept_31, sX5_accept_34, sX5_accept_35, sX5_accept_35i, sX5_accept_36, sX5_accept_39, sX5_accept_40, sX5_accept_41, sX5_accept_44, sX5_accept_45, sX5_accept_45t, sX5_accept_46, sX5_accept_47, sX5_accept_49, sX5_accept_50, sX5_accept_51, sX5_accept_54, sX5_accept_57, sX5_accept_59, sX5_accept_61, sX5_accept_62, sX5_accept_65, sX5_accept_66, sX5_accept_66t, sX5_accept_67, sX5_accept_68, sX5_accept_72, sX5_accept_74, sX5_accept_77, sX5_accept_78, sX5_accept_79, sX5_accept_80, sX5_accept_83, sX5_accept_86, sX5_accept_89, sX5_accept_92, sX5_accept_93, sX5_accept_94, sX5_accept_97, sX5_accept_98, sX5_accept_99, sX5_accept_102, sX5_accept_103, sX5_accept_103i, sX5_accept_104, sX5_accept_107, sX5_accept_108, sX5_accept_109, sX5_accept_112, sX5_accept_113, sX5_accept_113t, hd, hnm.1, hp.1, gf_0, gf_1, gf_2, gf_3, gf_4, gf_5, pf_0, pf_1, pf_2, pf_3, pf_4, pf_5, List.set_cons_zero, List.set_cons_succ, bd_v, bi_v, Option.toList, List.cons_append, List.nil_append, List.length_cons, List.length_nil, Nat.reduceAdd, Nat.reduceLeDiff, ck_in, nI_add, nI_1, if_false, if_true, hhs, hpf, g1 hm, not_true_eq_false, hrs, hsf, hr, oI, n2_ne (show s' ≤ 100 by omega), not_false_eq_true]
      exact y1
end
