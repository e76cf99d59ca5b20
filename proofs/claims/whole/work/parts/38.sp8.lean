/-! numbers out of bytes; Shelf: find, names, the table -/
theorem byt_un {v : Int32} {k : Nat} (hk : k < 4) : byt v k = nI (un v / 2 ^ (24 - 8 * k) % 256) := by
  unfold byt
  have h1 := pk_ushr v (nI (24 - 8 * k)) (24 - 8 * k) (sh_un _ (by omega))
  have h2 := pk_and ((v.toUInt32 >>> ((nI (24 - 8 * k)).toUInt32 &&& Int32.toUInt32 31)).toInt32) (m := 255) 8 (by decide)
  rw [h2, h1]
  rfl
theorem or_shl {a b : Nat} (ha : a < 2 ^ 24) (hb : b < 256) : (nI a <<< ((8 : Int32) &&& 31) ||| nI b) = nI (a * 256 + b) := by
  apply un_inj
  have h1 : nI a <<< ((8 : Int32) &&& 31) = nI (a * 2 ^ 8) := pk_shlN ((8 : Int32) &&& 31) 8 (by decide) (by omega)
  rw [h1]
  unfold un
  rw [Int32.toBitVec_or, BitVec.toNat_or, pk_tn (by omega), pk_tn (by omega), pk_tn (by omega)]
  have := Nat.two_pow_add_eq_or_of_lt (i := 8) (b := b) (by omega) a
  rw [Nat.mul_comm a (2 ^ 8), ← this]
theorem un_lt (v : Int32) : un v < 2 ^ 32 := v.toBitVec.isLt
theorem nI_un (v : Int32) : nI (un v) = v := un_inj (pk_tn (un_lt v))
theorem num_of {f : Nat → Int32} {p b0 b1 b2 b3 : Nat} (h0 : f p = nI b0) (h1 : f (p + 1) = nI b1) (h2 : f (p + 2) = nI b2) (h3 : f (p + 3) = nI b3) (l0 : b0 < 256) (l1 : b1 < 256) (l2 : b2 < 256) (l3 : b3 < 256) : num f p = nI (((b0 * 256 + b1) * 256 + b2) * 256 + b3) := by
  unfold num
  rw [h0, h1, h2, h3, show (0 : Int32) = nI 0 from rfl, or_shl (by omega) l0, or_shl (by omega) l1, or_shl (by omega) l2, or_shl (by omega) l3, show (0 * 256 + b0) = b0 by omega]
theorem num_byt {f : Nat → Int32} {p : Nat} {v : Int32} (h : ∀ k, k < 4 → f (p + k) = byt v k) : num f p = v := by
  have h0 := h 0 (by omega)
  have h1 := h 1 (by omega)
  have h2 := h 2 (by omega)
  have h3 := h 3 (by omega)
  rw [byt_un (by omega)] at h0 h1 h2 h3
  rw [Nat.add_zero] at h0
  rw [num_of h0 h1 h2 h3 (Nat.mod_lt _ (by omega)) (Nat.mod_lt _ (by omega)) (Nat.mod_lt _ (by omega)) (Nat.mod_lt _ (by omega))]
  have hl := un_lt v
  have e : ((un v / 2 ^ (24 - 8 * 0) % 256 * 256 + un v / 2 ^ (24 - 8 * 1) % 256) * 256 + un v / 2 ^ (24 - 8 * 2) % 256) * 256 + un v / 2 ^ (24 - 8 * 3) % 256 = un v := by
    simp only [Nat.mul_zero, Nat.sub_zero, Nat.mul_one, Nat.reduceMul, Nat.reduceSub, Nat.reducePow, Nat.div_one]
    omega
  rw [e, nI_un]
section
variable {h : Nat → Option va_E} {z : Nat × Nat × Nat} {s n : Nat} {S : Sh}
/-- where a name lies among records of different names -/
theorem find_split {rs : List Rc} {nm : List Int32} (hnd : (rs.map Prod.fst).Nodup) (hm : nm ∈ rs.map Prod.fst) : ∃ s1 s2 v, rs = s1 ++ (nm, v) :: s2 ∧ nm ∉ s1.map Prod.fst ∧ nm ∉ s2.map Prod.fst := by
  obtain ⟨x, hx, hxe⟩ := List.mem_map.mp hm
  obtain ⟨s1, s2, he⟩ := List.append_of_mem hx
  obtain ⟨x1, v⟩ := x
  have hxe : x1 = nm := hxe
  subst hxe
  refine ⟨s1, s2, v, he, fun hmm => ?_, fun hmm => ?_⟩
  · rw [he, List.map_append, List.map_cons, List.nodup_append] at hnd
    exact hnd.2.2 _ hmm _ List.mem_cons_self rfl
  · rw [he, List.map_append, List.map_cons, List.nodup_append] at hnd
    exact (List.nodup_cons.mp hnd.2.1).1 hmm
/-- the number of a name in a list of records; 0 if there is none -/
def numOf (nm : List Int32) : List Rc → Int32
  | [] => 0
  | x :: t => if x.1 = nm then x.2 else numOf nm t
theorem numOf_no {nm : List Int32} {rs : List Rc} (hm : nm ∉ rs.map Prod.fst) : numOf nm rs = 0 := by
  induction rs with
  | nil => rfl
  | cons x t ih =>
    rw [List.map_cons, List.mem_cons, not_or] at hm
    rw [numOf, if_neg (fun z => hm.1 z.symm)]
    exact ih hm.2
theorem numOf_at {nm : List Int32} {s1 s2 : List Rc} {v : Int32} (hm : nm ∉ s1.map Prod.fst) : numOf nm (s1 ++ (nm, v) :: s2) = v := by
  induction s1 with
  | nil => simp [numOf]
  | cons x t ih =>
    rw [List.map_cons, List.mem_cons, not_or] at hm
    rw [List.cons_append, numOf, if_neg (fun z => hm.1 z.symm)]
    exact ih hm.2
theorem n2_ne {m : Nat} (hm : m ≤ 100) : ¬ (nI m = (-1 : Int32)) := by
  intro e
  have := nI_toInt (n := m) (by omega)
  rw [e] at this
  revert this
  simp
theorem Shelf_numberOf (a : ShS h s n S) (w : WF n S) {nb nr na l : Nat} {f : Nat → Int32} (hnm : NameAt h nb nr na l f) : cl 69 [.ref s, .ref nb] (h, z) = some (.inl (some (.int (numOf (nmof l f) (S.rec (S.at (hsh (nmof l f))))))), (h, z)) := by
  have h1 := S.at_lt w (hsh (nmof l f))
  have h2 : S.used ≤ n := w.2.1
  have hpf := Shelf_pageFor (z := z) a w (hsh (nmof l f))
  obtain ⟨t, hp, -, -⟩ := a.pg (p := S.at (hsh (nmof l f))) (by omega)
  have h6 : 2 + tsz (S.rec (S.at (hsh (nmof l f)))) ≤ 60 := w.2.2.2.2.2.1 _
  obtain ⟨g1, g2⟩ := Page_placeOf (z := z) hp h6 hnm
  have hhs := Name_hash (z := z) hnm
  rw [← hsh_nmof] at hhs
  obtain ⟨tf, a1, a2⟩ := a
  rw [eX5_numberOf]
  by_cases hm : nmof l f ∈ (S.rec (S.at (hsh (nmof l f)))).map Prod.fst
  · obtain ⟨s1, s2, v, he, hn1, hn2⟩ := find_split (w.2.2.2.2.2.2.2.2.2.1 _) hm
    have h6' := h6
    rw [he, tsz_app, tsz] at h6'
    have e3 : rsz (nmof l f, v) = (nmof l f).length + 5 := rfl
    have hl := hnm.2.2.2
    have hlx : pgG (S.dep (S.at (hsh (nmof l f)))) (S.rec (S.at (hsh (nmof l f)))) t (2 + tsz s1) = nI (nmof l f).length := by
      rw [he]; exact pg_len (x := (nmof l f, v)) (by rw [← he]; exact h6)
    have hna := Page_numberAt (z := z) hp (p := 2 + tsz s1) (m := (nmof l f).length) (by omega) hlx
    have hnum : num (pgG (S.dep (S.at (hsh (nmof l f)))) (S.rec (S.at (hsh (nmof l f)))) t) (2 + tsz s1 + 1 + (nmof l f).length) = v := num_byt (fun k hk => by
      have h7 := pg_at (d := S.dep (S.at (hsh (nmof l f)))) (pre := s1) (suf := s2) (x := (nmof l f, v)) (t := t) (i := 1 + (nmof l f).length + k) (by rw [e3]; omega) (by rw [← he]; exact h6)
      rw [enc_b (x := (nmof l f, v)) hk, ← he] at h7
      rw [← h7]
      congr 1
      omega)
    rw [hnum] at hna
    have hno : numOf (nmof l f) (S.rec (S.at (hsh (nmof l f)))) = v := by rw [he]; exact numOf_at hn1
    rw [hno]
    simp only [sX5_numberOf_0, sX5_numberOf_1, sX5_numberOf_2, sX5_numberOf_5, sX5_numberOf_8, sX5_numberOf_9, sX5_numberOf_10, sX5_numberOf_11, sX5_numberOf_14, sX5_numberOf_15, sX5_numberOf_16, sX5_numberOf_17, sX5_numberOf_20, sX5_numberOf_21, sX5_numberOf_24, sX5_numberOf_25, sX5_numberOf_26, sX5_numberOf_29, a1.1, hnm.1, hp.1, gf_0, gf_1, gf_2, gf_3, gf_4, gf_5, pf_0, pf_1, pf_2, pf_3, pf_4, pf_5, List.set_cons_zero, List.set_cons_succ, bd_v, bi_v, Option.toList, List.cons_append, List.nil_append, List.length_cons, List.length_nil, Nat.reduceAdd, Nat.reduceLeDiff, ck_in, nI_add, nI_1, if_false, if_true, hhs, hpf, g2 s1 s2 _ he rfl hn1, n2_ne (show 2 + tsz s1 ≤ 100 by omega), not_false_eq_true, hna]
  · rw [numOf_no hm]
    simp only [sX5_numberOf_0, sX5_numberOf_1, sX5_numberOf_2, sX5_numberOf_5, sX5_numberOf_8, sX5_numberOf_9, sX5_numberOf_10, sX5_numberOf_11, sX5_numberOf_14, sX5_numberOf_15, sX5_numberOf_16, sX5_numberOf_17, sX5_numberOf_20, sX5_numberOf_21, sX5_numberOf_24, sX5_numberOf_25, sX5_numberOf_26, sX5_numberOf_29, a1.1, hnm.1, hp.1, gf_0, gf_1, gf_2, gf_3, gf_4, gf_5, pf_0, pf_1, pf_2, pf_3, pf_4, pf_5, List.set_cons_zero, List.set_cons_succ, bd_v, bi_v, Option.toList, List.cons_append, List.nil_append, List.length_cons, List.length_nil, Nat.reduceAdd, Nat.reduceLeDiff, ck_in, nI_add, nI_1, if_false, if_true, hhs, hpf, g1 hm, not_true_eq_false]
/-- how many names -/
def cnt (S : Sh) : Nat → Nat
  | 0 => 0
  | n + 1 => cnt S n + (S.rec n).length
theorem names_l (a : ShS h s n S) (w : WF n S) : ∀ (m k : Nat), k + m = n → rn 74 4 [.ref s, .int (nI (cnt S k)), .int (nI k)] [] (h, z) = some (.inl (some (.int (nI (cnt S n)))), (h, z)) := by
  have hn : n ≤ 40 := w.2.2.2.1
  obtain ⟨tf, a1, a2⟩ := id a
  obtain ⟨c1, ⟨g, c2, c3⟩, -⟩ := id a1
  intro m
  induction m with
  | zero =>
    intro k hk
    have h1 : nI n ≤ nI k := by rw [nI_leI (by omega) (by omega)]; omega
    rw [sX5_names_4]
    simp only [sX5_names_0, sX5_names_1, sX5_names_2, sX5_names_3, sX5_names_5, sX5_names_6, sX5_names_9, sX5_names_10, sX5_names_13, sX5_names_14, sX5_names_15, sX5_names_18, sX5_names_19, sX5_names_20, sX5_names_23, sX5_names_24, sX5_names_25, sX5_names_28, sX5_names_31, sX5_names_32, c1, c2, gf_0, gf_1, gf_2, gf_3, gf_4, gf_5, pf_0, pf_1, pf_2, pf_3, pf_4, pf_5, List.set_cons_zero, List.set_cons_succ, lnr_in, h1, if_true]
    rw [show k = n by omega]
  | succ m ih =>
    intro k hk
    have h1 : ¬ (nI n ≤ nI k) := by rw [nI_leI (by omega) (by omega)]; omega
    obtain ⟨t, hp, -, -⟩ := a.pg (p := k) (by omega)
    rw [sX5_names_4]
    simp only [sX5_names_0, sX5_names_1, sX5_names_2, sX5_names_3, sX5_names_5, sX5_names_6, sX5_names_9, sX5_names_10, sX5_names_13, sX5_names_14, sX5_names_15, sX5_names_18, sX5_names_19, sX5_names_20, sX5_names_23, sX5_names_24, sX5_names_25, sX5_names_28, sX5_names_31, sX5_names_32, c1, c2, gf_0, gf_1, gf_2, gf_3, gf_4, gf_5, pf_0, pf_1, pf_2, pf_3, pf_4, pf_5, List.set_cons_zero, List.set_cons_succ, lnr_in, h1, bd_v, bi_v, Option.toList, List.cons_append, List.nil_append, List.length_cons, List.length_nil, Nat.reduceAdd, Nat.reduceLeDiff, ck_in, nI_add, nI_1, if_false, if_true, rl_in (show k < n by omega) (show n ≤ 100000 by omega), c3 k (by omega), rf_some, hp.1, Page_records hp, pg_1]
    exact ih (k + 1) (by omega)
theorem Shelf_names (a : ShS h s n S) (w : WF n S) : cl 74 [.ref s] (h, z) = some (.inl (some (.int (nI (cnt S n)))), (h, z)) := by
  rw [eX5_names]
  simp only [sX5_names_0, sX5_names_1, sX5_names_2, sX5_names_3]
  exact names_l a w n 0 (by omega)
end
