/-! Page: its loops -/
section
variable {h : Nat → Option va_E} {z : Nat × Nat × Nat} {b d : Nat} {t : Nat → Int32}
theorem pg_0 {rs : List Rc} : pgG d rs t 0 = nI d := by simp [pgG]
theorem pg_1 {rs : List Rc} : pgG d rs t 1 = nI rs.length := by simp [pgG]
theorem pg_len {pre suf : List Rc} {x : Rc} (hs : 2 + tsz (pre ++ x :: suf) ≤ 60) : pgG d (pre ++ x :: suf) t (2 + tsz pre) = nI x.1.length := by
  have := pg_at (d := d) (t := t) (i := 0) (show 0 < rsz x by unfold rsz; omega) hs
  rw [Nat.add_zero, enc_0] at this
  exact this
theorem pg_hash {pre suf : List Rc} {x : Rc} (hs : 2 + tsz (pre ++ x :: suf) ≤ 60) : sm mix (pgG d (pre ++ x :: suf) t) (2 + tsz pre + 1) x.1.length 0 = hsh x.1 := by
  unfold hsh
  refine sm_congr2 _ _ _ _ (fun i hi => ?_)
  have := pg_at (d := d) (t := t) (i := 1 + i) (show 1 + i < rsz x by unfold rsz; omega) hs
  rw [enc_n hi] at this
  rw [Nat.zero_add, ← this]
  congr 1
  omega
theorem rs_len_le {rs : List Rc} (hs : 2 + tsz rs ≤ 60) : rs.length ≤ 11 := by
  have : ∀ rs : List Rc, 5 * rs.length ≤ tsz rs := by
    intro rs
    induction rs with
    | nil => simp [tsz]
    | cons x t ih => rw [tsz, List.length_cons]; unfold rsz; omega
  have := this rs
  omega
theorem placeOf_l {rs : List Rc} {nb nr na l : Nat} {f : Nat → Int32} (hp : PgL h b (pgG d rs t) (2 + tsz rs)) (hs : 2 + tsz rs ≤ 60) (hnm : NameAt h nb nr na l f) : ∀ (suf pre : List Rc), rs = pre ++ suf →
    (nmof l f ∉ suf.map Prod.fst → rn 39 10 [.ref b, .ref nb, .int (nI rs.length), .int (nI (2 + tsz pre)), .int (nI pre.length)] [] (h, z) = some (.inl (some (.int (-1))), (h, z))) ∧
    (∀ (s1 s2 : List Rc) (x : Rc), suf = s1 ++ x :: s2 → x.1 = nmof l f → nmof l f ∉ s1.map Prod.fst → rn 39 10 [.ref b, .ref nb, .int (nI rs.length), .int (nI (2 + tsz pre)), .int (nI pre.length)] [] (h, z) = some (.inl (some (.int (nI (2 + tsz (pre ++ s1))))), (h, z))) := by
  intro suf
  have hlen := rs_len_le hs
  induction suf with
  | nil =>
    intro pre hrs
    rw [List.append_nil] at hrs
    have h1 : nI rs.length ≤ nI pre.length := by rw [hrs]; exact nI_le (Nat.le_refl _) (by rw [hrs] at hlen; omega)
    refine ⟨fun _ => ?_, fun s1 s2 x hx => by cases s1 <;> cases hx⟩
    rw [sX3_placeOf_10]
    simp only [sX3_placeOf_0, sX3_placeOf_1, sX3_placeOf_4, sX3_placeOf_5, sX3_placeOf_6, sX3_placeOf_7, sX3_placeOf_8, sX3_placeOf_12, sX3_placeOf_13, sX3_placeOf_16, sX3_placeOf_17, sX3_placeOf_18, sX3_placeOf_21, sX3_placeOf_22, sX3_placeOf_25, sX3_placeOf_28, sX3_placeOf_29, sX3_placeOf_30, sX3_placeOf_31, sX3_placeOf_32, sX3_placeOf_33, sX3_placeOf_36, sX3_placeOf_37, sX3_placeOf_38, sX3_placeOf_41, sX3_placeOf_44, sX3_placeOf_45, h1, if_true]
  | cons x suf ih =>
    intro pre hrs
    have hl : rs.length = pre.length + (suf.length + 1) := by rw [hrs]; simp
    have h1 : ¬ (nI rs.length ≤ nI pre.length) := by rw [nI_leI (by omega) (by omega)]; omega
    have hs' : 2 + tsz (pre ++ x :: suf) ≤ 60 := by rw [← hrs]; exact hs
    have hts := hs'
    rw [tsz_app, tsz] at hts
    unfold rsz at hts
    have hlx : pgG d rs t (2 + tsz pre) = nI x.1.length := by rw [hrs]; exact pg_len hs'
    have hia := Name_isAt (z := z) hnm hp.2.1 hp.2.2 (by omega) (p := 2 + tsz pre) (m := x.1.length) (by omega) hlx (by omega) (fun hm => by omega)
    have hiff : (x.1.length = l ∧ ∀ i, i < l → pgG d rs t (2 + tsz pre + 1 + i) = f i) ↔ x.1 = nmof l f := by
      have hat : ∀ i, i < x.1.length → pgG d rs t (2 + tsz pre + 1 + i) = x.1.getD i 0 := fun i hi => by
        have := pg_at (d := d) (t := t) (i := 1 + i) (show 1 + i < rsz x by unfold rsz; omega) hs'
        rw [enc_n hi] at this
        rw [hrs, ← this]
        congr 1
        omega
      constructor
      · rintro ⟨h2, h3⟩
        exact nmof_eq h2 (fun i hi => by rw [← hat i (by omega)]; exact h3 i hi)
      · intro h2
        have h3 : x.1.length = l := by rw [h2, nmof_len]
        exact ⟨h3, fun i hi => by rw [hat i (by omega), h2, nmof_get hi]⟩
    have hgo : x.1 ≠ nmof l f → rn 39 10 [.ref b, .ref nb, .int (nI rs.length), .int (nI (2 + tsz pre)), .int (nI pre.length)] [] (h, z) = rn 39 10 [.ref b, .ref nb, .int (nI rs.length), .int (nI (2 + tsz (pre ++ [x]))), .int (nI (pre ++ [x]).length)] [] (h, z) := by
      intro hne
      rw [if_neg (fun z => hne (hiff.mp z))] at hia
      have e1 : 2 + tsz pre + (x.1.length + 5) = 2 + tsz (pre ++ [x]) := by rw [tsz_app, tsz_one]; unfold rsz; omega
      rw [sX3_placeOf_10]
      simp only [sX3_placeOf_0, sX3_placeOf_1, sX3_placeOf_4, sX3_placeOf_5, sX3_placeOf_6, sX3_placeOf_7, sX3_placeOf_8, sX3_placeOf_12, sX3_placeOf_13, sX3_placeOf_16, sX3_placeOf_17, sX3_placeOf_18, sX3_placeOf_21, sX3_placeOf_22, sX3_placeOf_25, sX3_placeOf_28, sX3_placeOf_29, sX3_placeOf_30, sX3_placeOf_31, sX3_placeOf_32, sX3_placeOf_33, sX3_placeOf_36, sX3_placeOf_37, sX3_placeOf_38, sX3_placeOf_41, sX3_placeOf_44, sX3_placeOf_45, h1, hp.1, hnm.1, gf_0, gf_1, gf_2, gf_3, gf_4, gf_5, pf_0, pf_1, pf_2, pf_3, pf_4, pf_5, List.set_cons_zero, List.set_cons_succ, bd_v, bi_v, Option.toList, List.cons_append, List.nil_append, List.length_cons, List.length_nil, Nat.reduceAdd, Nat.reduceLeDiff, ck_in, nI_add, nI_1, if_false, if_true, hia, Page_recordSizeAt hp (show 2 + tsz pre < 64 by omega) hlx, e1, List.length_append]
    refine ⟨fun hni => ?_, fun s1 s2 y hy hyn hns => ?_⟩
    · rw [List.map_cons, List.mem_cons, not_or] at hni
      rw [hgo (fun z => hni.1 z.symm)]
      exact (ih (pre ++ [x]) (by rw [hrs]; simp)).1 hni.2
    · cases s1 with
      | nil =>
        cases hy
        rw [if_pos (hiff.mpr hyn)] at hia
        rw [sX3_placeOf_10]
        simp only [sX3_placeOf_0, sX3_placeOf_1, sX3_placeOf_4, sX3_placeOf_5, sX3_placeOf_6, sX3_placeOf_7, sX3_placeOf_8, sX3_placeOf_12, sX3_placeOf_13, sX3_placeOf_16, sX3_placeOf_17, sX3_placeOf_18, sX3_placeOf_21, sX3_placeOf_22, sX3_placeOf_25, sX3_placeOf_28, sX3_placeOf_29, sX3_placeOf_30, sX3_placeOf_31, sX3_placeOf_32, sX3_placeOf_33, sX3_placeOf_36, sX3_placeOf_37, sX3_placeOf_38, sX3_placeOf_41, sX3_placeOf_44, sX3_placeOf_45, h1, hp.1, hnm.1, gf_0, gf_1, gf_2, gf_3, gf_4, gf_5, pf_0, pf_1, pf_2, pf_3, pf_4, pf_5, List.set_cons_zero, List.set_cons_succ, bd_v, bi_v, Option.toList, List.cons_append, List.nil_append, List.length_cons, List.length_nil, Nat.reduceAdd, Nat.reduceLeDiff, ck_in, nI_add, nI_1, if_false, if_true, hia, List.append_nil]
        rw [if_neg (by decide)]
      | cons y1 s1 =>
        cases hy
        rw [List.map_cons, List.mem_cons, not_or] at hns
        rw [hgo (fun z => hns.1 z.symm), (ih (pre ++ [x]) (by rw [hrs]; simp)).2 s1 s2 y rfl hyn hns.2]
        rw [List.append_assoc]
        rfl
theorem Page_placeOf {rs : List Rc} {nb nr na l : Nat} {f : Nat → Int32} (hp : PgL h b (pgG d rs t) (2 + tsz rs)) (hs : 2 + tsz rs ≤ 60) (hnm : NameAt h nb nr na l f) :
    (nmof l f ∉ rs.map Prod.fst → cl 39 [.ref b, .ref nb] (h, z) = some (.inl (some (.int (-1))), (h, z))) ∧
    (∀ (s1 s2 : List Rc) (x : Rc), rs = s1 ++ x :: s2 → x.1 = nmof l f → nmof l f ∉ s1.map Prod.fst → cl 39 [.ref b, .ref nb] (h, z) = some (.inl (some (.int (nI (2 + tsz s1)))), (h, z))) := by
  have e : cl 39 [.ref b, .ref nb] (h, z) = rn 39 10 [.ref b, .ref nb, .int (nI rs.length), .int (nI (2 + tsz [])), .int (nI ([] : List Rc).length)] [] (h, z) := by
    rw [eX3_placeOf]
    simp only [sX3_placeOf_0, sX3_placeOf_1, sX3_placeOf_4, sX3_placeOf_5, sX3_placeOf_6, sX3_placeOf_7, sX3_placeOf_8, hp.1, bd_v, bi_v, Option.toList, List.cons_append, List.nil_append, List.length_cons, List.length_nil, Nat.reduceAdd, Nat.reduceLeDiff, ck_in, nI_add, nI_1, if_false, if_true, Page_records hp, pg_1]
    rfl
  rw [e]
  exact placeOf_l hp hs hnm rs [] rfl
/-- records whose hash has the lowest bits of another -/
def msk (k : Nat) : Int32 := (1 : Int32) <<< (nI k &&& 31) - 1
def kin (hh : Int32) (k : Nat) (x : Rc) : Bool := decide (((hsh x.1 ^^^ hh) &&& msk k) = 0)
theorem kin_l {rs : List Rc} (hp : PgL h b (pgG d rs t) (2 + tsz rs)) (hs : 2 + tsz rs ≤ 60) (hh : Int32) (k : Nat) : ∀ (suf pre : List Rc), rs = pre ++ suf →
    rn 46 21 [.ref b, .int hh, .int (nI k), .int (msk k), .int (nI rs.length), .int (nI (tsz (pre.filter (kin hh k)))), .int (nI (2 + tsz pre)), .int (nI pre.length)] [] (h, z) = some (.inl (some (.int (nI (tsz (rs.filter (kin hh k)))))), (h, z)) := by
  intro suf
  have hlen := rs_len_le hs
  induction suf with
  | nil =>
    intro pre hrs
    rw [List.append_nil] at hrs
    have h1 : nI rs.length ≤ nI pre.length := by rw [hrs]; exact nI_le (Nat.le_refl _) (by rw [hrs] at hlen; omega)
    rw [sX3_bytesOfKin_21]
    simp only [sX3_bytesOfKin_0, sX3_bytesOfKin_1, sX3_bytesOfKin_2, sX3_bytesOfKin_3, sX3_bytesOfKin_4, sX3_bytesOfKin_5, sX3_bytesOfKin_6, sX3_bytesOfKin_7, sX3_bytesOfKin_10, sX3_bytesOfKin_12, sX3_bytesOfKin_13, sX3_bytesOfKin_15, sX3_bytesOfKin_16, sX3_bytesOfKin_18, sX3_bytesOfKin_19, sX3_bytesOfKin_23, sX3_bytesOfKin_25, sX3_bytesOfKin_28, sX3_bytesOfKin_29, sX3_bytesOfKin_31, sX3_bytesOfKin_34, sX3_bytesOfKin_35, sX3_bytesOfKin_36, sX3_bytesOfKin_37, sX3_bytesOfKin_38, sX3_bytesOfKin_41, sX3_bytesOfKin_43, sX3_bytesOfKin_44, sX3_bytesOfKin_46, sX3_bytesOfKin_49, sX3_bytesOfKin_50, sX3_bytesOfKin_52, sX3_bytesOfKin_54, sX3_bytesOfKin_55, sX3_bytesOfKin_57, sX3_bytesOfKin_60, sX3_bytesOfKin_61, sX3_bytesOfKin_63, sX3_bytesOfKin_66, sX3_bytesOfKin_69, sX3_bytesOfKin_71, h1, if_true]
    rw [hrs]
  | cons x suf ih =>
    intro pre hrs
    have hl : rs.length = pre.length + (suf.length + 1) := by rw [hrs]; simp
    have h1 : ¬ (nI rs.length ≤ nI pre.length) := by rw [nI_leI (by omega) (by omega)]; omega
    have hs' : 2 + tsz (pre ++ x :: suf) ≤ 60 := by rw [← hrs]; exact hs
    have hts := hs'
    rw [tsz_app, tsz] at hts
    unfold rsz at hts
    have hlx : pgG d rs t (2 + tsz pre) = nI x.1.length := by rw [hrs]; exact pg_len hs'
    have hha := Page_hashAt (z := z) hp (p := 2 + tsz pre) (m := x.1.length) (by omega) hlx
    have hhx : sm mix (pgG d rs t) (2 + tsz pre + 1) x.1.length 0 = hsh x.1 := by rw [hrs]; exact pg_hash hs'
    rw [hhx] at hha
    have hrz := Page_recordSizeAt (z := z) hp (show 2 + tsz pre < 64 by omega) hlx
    have e1 : 2 + tsz pre + (x.1.length + 5) = 2 + tsz (pre ++ [x]) := by rw [tsz_app, tsz_one]; unfold rsz; omega
    have hih := ih (pre ++ [x]) (by rw [hrs]; simp)
    have e3 : (pre ++ [x]).length = pre.length + 1 := by simp
    rw [sX3_bytesOfKin_21]
    by_cases hk : ((hsh x.1 ^^^ hh) &&& msk k) = 0
    · have e2 : tsz ((pre ++ [x]).filter (kin hh k)) = tsz (pre.filter (kin hh k)) + (x.1.length + 5) := by
        rw [List.filter_append, tsz_app, List.filter_cons_of_pos (by simp [kin, hk]), List.filter_nil, tsz_one]
        rfl
      rw [e2, e3] at hih
      simp only [sX3_bytesOfKin_0, sX3_bytesOfKin_1, sX3_bytesOfKin_2, sX3_bytesOfKin_3, sX3_bytesOfKin_4, sX3_bytesOfKin_5, sX3_bytesOfKin_6, sX3_bytesOfKin_7, sX3_bytesOfKin_10, sX3_bytesOfKin_12, sX3_bytesOfKin_13, sX3_bytesOfKin_15, sX3_bytesOfKin_16, sX3_bytesOfKin_18, sX3_bytesOfKin_19, sX3_bytesOfKin_23, sX3_bytesOfKin_25, sX3_bytesOfKin_28, sX3_bytesOfKin_29, sX3_bytesOfKin_31, sX3_bytesOfKin_34, sX3_bytesOfKin_35, sX3_bytesOfKin_36, sX3_bytesOfKin_37, sX3_bytesOfKin_38, sX3_bytesOfKin_41, sX3_bytesOfKin_43, sX3_bytesOfKin_44, sX3_bytesOfKin_46, sX3_bytesOfKin_49, sX3_bytesOfKin_50, sX3_bytesOfKin_52, sX3_bytesOfKin_54, sX3_bytesOfKin_55, sX3_bytesOfKin_57, sX3_bytesOfKin_60, sX3_bytesOfKin_61, sX3_bytesOfKin_63, sX3_bytesOfKin_66, sX3_bytesOfKin_69, sX3_bytesOfKin_71, h1, hp.1, bd_v, bi_v, Option.toList, List.cons_append, List.nil_append, List.length_cons, List.length_nil, Nat.reduceAdd, Nat.reduceLeDiff, ck_in, nI_add, nI_1, if_false, if_true, hha, hrz, hk, not_true_eq_false, e1]
      exact hih
    · have e2 : tsz ((pre ++ [x]).filter (kin hh k)) = tsz (pre.filter (kin hh k)) := by
        rw [List.filter_append, List.filter_cons_of_neg (by simp [kin, hk]), List.filter_nil, List.append_nil]
      rw [e2, e3] at hih
      simp only [sX3_bytesOfKin_0, sX3_bytesOfKin_1, sX3_bytesOfKin_2, sX3_bytesOfKin_3, sX3_bytesOfKin_4, sX3_bytesOfKin_5, sX3_bytesOfKin_6, sX3_bytesOfKin_7, sX3_bytesOfKin_10, sX3_bytesOfKin_12, sX3_bytesOfKin_13, sX3_bytesOfKin_15, sX3_bytesOfKin_16, sX3_bytesOfKin_18, sX3_bytesOfKin_19, sX3_bytesOfKin_23, sX3_bytesOfKin_25, sX3_bytesOfKin_28, sX3_bytesOfKin_29, sX3_bytesOfKin_31, sX3_bytesOfKin_34, sX3_bytesOfKin_35, sX3_bytesOfKin_36, sX3_bytesOfKin_37, sX3_bytesOfKin_38, sX3_bytesOfKin_41, sX3_bytesOfKin_43, sX3_bytesOfKin_44, sX3_bytesOfKin_46, sX3_bytesOfKin_49, sX3_bytesOfKin_50, sX3_bytesOfKin_52, sX3_bytesOfKin_54, sX3_bytesOfKin_55, sX3_bytesOfKin_57, sX3_bytesOfKin_60, sX3_bytesOfKin_61, sX3_bytesOfKin_63, sX3_bytesOfKin_66, sX3_bytesOfKin_69, sX3_bytesOfKin_71, h1, hp.1, bd_v, bi_v, Option.toList, List.cons_append, List.nil_append, List.length_cons, List.length_nil, Nat.reduceAdd, Nat.reduceLeDiff, ck_in, nI_add, nI_1, if_false, if_true, hha, hrz, hk, not_false_eq_true, e1]
      exact hih
theorem Page_bytesOfKin {rs : List Rc} (hp : PgL h b (pgG d rs t) (2 + tsz rs)) (hs : 2 + tsz rs ≤ 60) (hh : Int32) (k : Nat) : cl 46 [.ref b, .int hh, .int (nI k)] (h, z) = some (.inl (some (.int (nI (tsz (rs.filter (kin hh k)))))), (h, z)) := by
  have := kin_l (z := z) hp hs hh k rs [] rfl
  rw [eX3_bytesOfKin]
  simp only [sX3_bytesOfKin_0, sX3_bytesOfKin_1, sX3_bytesOfKin_2, sX3_bytesOfKin_3, sX3_bytesOfKin_4, sX3_bytesOfKin_5, sX3_bytesOfKin_6, sX3_bytesOfKin_7, sX3_bytesOfKin_10, sX3_bytesOfKin_12, sX3_bytesOfKin_13, sX3_bytesOfKin_15, sX3_bytesOfKin_16, sX3_bytesOfKin_18, sX3_bytesOfKin_19, hp.1, bd_v, bi_v, Option.toList, List.cons_append, List.nil_append, List.length_cons, List.length_nil, Nat.reduceAdd, Nat.reduceLeDiff, ck_in, nI_add, nI_1, if_false, if_true, Page_records hp, pg_1]
  exact this
/-- a bit of a record's hash -/
def hbt (k : Nat) (x : Rc) : Bool := !decide ((((hsh x.1).toUInt32 >>> ((nI k).toUInt32 &&& Int32.toUInt32 31)).toInt32 &&& 1) = 0)
theorem tsz_filter (q : Rc → Bool) (rs : List Rc) : tsz (rs.filter q) ≤ tsz rs := by
  induction rs with
  | nil => simp
  | cons x t ih =>
    rw [tsz]
    by_cases hq : q x = true
    · rw [List.filter_cons_of_pos hq, tsz]; omega
    · rw [List.filter_cons_of_neg hq]; omega
/-- a record of one page comes behind the others of another -/
theorem deal_one {rs pre suf : List Rc} {x : Rc} {b1 d1 : Nat} {r1 : List Rc} {t1 : Nat → Int32} (hp : PgL h b (pgG d rs t) (2 + tsz rs)) (hs : 2 + tsz rs ≤ 60) (hrs : rs = pre ++ x :: suf) (hp1 : PgL h b1 (pgG d1 r1 t1) (2 + tsz r1)) (hs1 : 2 + tsz r1 + rsz x ≤ 60) (hn : b + 2 ≠ b1 + 2) :
    ∃ h1 h', cl 7 [.ref (b1 + 1), .int (nI (2 + tsz r1)), .ref (b + 1), .int (nI (2 + tsz pre)), .int (nI (rsz x))] (h, z) = some (.inl none, (h1, z)) ∧ h1 b1 = some (obj 3 [.ref (b1 + 1), .int (nI (2 + tsz r1))]) ∧ cl 51 [.ref b1, .int (nI (rsz x))] (h1, z) = some (.inl none, (h', z)) ∧ PgL h' b1 (pgG d1 (r1 ++ [x]) t1) (2 + tsz (r1 ++ [x])) ∧ fre [b1, b1 + 2] h h' := by
  have hs' : 2 + tsz (pre ++ x :: suf) ≤ 60 := by rw [← hrs]; exact hs
  have hts := hs'
  rw [tsz_app, tsz] at hts
  have c1 := Row_copyPart (z := z) hp1.2.1 hp1.2.2 (by omega) hp.2.1 hp.2.2 (by omega) hn (p := 2 + tsz r1) (q := 2 + tsz pre) (m := rsz x) (by omega) (by omega)
  have q1 := hp1.row (cpy (pgG d rs t) (pgG d1 r1 t1) (2 + tsz pre) (2 + tsz r1) (rsz x))
  have hF : cpy (pgG d rs t) (pgG d1 r1 t1) (2 + tsz pre) (2 + tsz r1) (rsz x) 1 = nI r1.length := by rw [cpy_out (by omega)]; exact pg_1
  have c2 := Page_countRecord (z := z) q1 (s := rsz x) hF
  rw [up_up, pg_deal hs1 (fun i hi => by rw [hrs]; exact pg_at hi hs')] at c2
  have e1 : 2 + tsz r1 + rsz x = 2 + tsz (r1 ++ [x]) := by rw [tsz_app, tsz_one]; omega
  exact ⟨_, _, c1, q1.1, c2, by rw [← e1]; exact (hp1.row (pgG d1 (r1 ++ [x]) t1)).endu _, (fre.u (by simp)).t (fre.u (by simp))⟩
theorem dealTo_l {rs : List Rc} {b0 b1 d0 d1 k : Nat} {t0 t1 : Nat → Int32} (hs : 2 + tsz rs ≤ 60) (n1 : b ≠ b0 ∧ b ≠ b0 + 2 ∧ b + 1 ≠ b0 ∧ b + 1 ≠ b0 + 2 ∧ b + 2 ≠ b0 ∧ b + 2 ≠ b0 + 2) (n2 : b ≠ b1 ∧ b ≠ b1 + 2 ∧ b + 1 ≠ b1 ∧ b + 1 ≠ b1 + 2 ∧ b + 2 ≠ b1 ∧ b + 2 ≠ b1 + 2)
    (n3 : b0 ≠ b1 ∧ b0 ≠ b1 + 2 ∧ b0 + 1 ≠ b1 ∧ b0 + 1 ≠ b1 + 2 ∧ b0 + 2 ≠ b1 ∧ b0 + 2 ≠ b1 + 2 ∧ b1 + 1 ≠ b0 ∧ b1 + 1 ≠ b0 + 2) : ∀ (suf pre : List Rc), rs = pre ++ suf → ∀ (h : Nat → Option va_E) (w7 w8 : Value), PgL h b (pgG d rs t) (2 + tsz rs) →
    PgL h b0 (pgG d0 (pre.filter (fun x => !hbt k x)) t0) (2 + tsz (pre.filter (fun x => !hbt k x))) → PgL h b1 (pgG d1 (pre.filter (hbt k)) t1) (2 + tsz (pre.filter (hbt k))) →
    ∃ h', rn 50 12 [.ref b, .ref b0, .ref b1, .int (nI k), .int (nI rs.length), .int (nI (2 + tsz pre)), .int (nI pre.length), w7, w8] [] (h, z) = some (.inl none, (h', z)) ∧
      PgL h' b0 (pgG d0 (rs.filter (fun x => !hbt k x)) t0) (2 + tsz (rs.filter (fun x => !hbt k x))) ∧ PgL h' b1 (pgG d1 (rs.filter (hbt k)) t1) (2 + tsz (rs.filter (hbt k))) ∧ fre [b0, b0 + 2, b1, b1 + 2] h h' := by
  intro suf
  have hlen := rs_len_le hs
  induction suf with
  | nil =>
    intro pre hrs h w7 w8 hp hp0 hp1
    rw [List.append_nil] at hrs
    have h1 : nI rs.length ≤ nI pre.length := by rw [hrs]; exact nI_le (Nat.le_refl _) (by rw [hrs] at hlen; omega)
    refine ⟨h, ?_, by rw [hrs]; exact hp0, by rw [hrs]; exact hp1, fre.r⟩
    rw [sX3_dealTo_12]
    simp only [sX3_dealTo_0, sX3_dealTo_1, sX3_dealTo_4, sX3_dealTo_6, sX3_dealTo_7, sX3_dealTo_9, sX3_dealTo_10, sX3_dealTo_14, sX3_dealTo_16, sX3_dealTo_19, sX3_dealTo_20, sX3_dealTo_22, sX3_dealTo_25, sX3_dealTo_26, sX3_dealTo_27, sX3_dealTo_28, sX3_dealTo_29, sX3_dealTo_32, sX3_dealTo_33, sX3_dealTo_36, sX3_dealTo_37, sX3_dealTo_39, sX3_dealTo_40, sX3_dealTo_42, sX3_dealTo_45, sX3_dealTo_47, sX3_dealTo_49, sX3_dealTo_52, sX3_dealTo_54, sX3_dealTo_57, sX3_dealTo_58, sX3_dealTo_61, sX3_dealTo_63, sX3_dealTo_65, sX3_dealTo_68, sX3_dealTo_70, sX3_dealTo_72, sX3_dealTo_75, sX3_dealTo_77, sX3_dealTo_79, sX3_dealTo_80, sX3_dealTo_82, sX3_dealTo_85, sX3_dealTo_88, h1, if_true]
  | cons x suf ih =>
    intro pre hrs h w7 w8 hp hp0 hp1
    have hl : rs.length = pre.length + (suf.length + 1) := by rw [hrs]; simp
    have h1 : ¬ (nI rs.length ≤ nI pre.length) := by rw [nI_leI (by omega) (by omega)]; omega
    have hs' : 2 + tsz (pre ++ x :: suf) ≤ 60 := by rw [← hrs]; exact hs
    have hts := hs'
    rw [tsz_app, tsz] at hts
    have hlx : pgG d rs t (2 + tsz pre) = nI x.1.length := by rw [hrs]; exact pg_len hs'
    have hrzx : rsz x = x.1.length + 5 := rfl
    have hha := Page_hashAt (z := z) hp (p := 2 + tsz pre) (m := x.1.length) (by omega) hlx
    have hhx : sm mix (pgG d rs t) (2 + tsz pre + 1) x.1.length 0 = hsh x.1 := by rw [hrs]; exact pg_hash hs'
    rw [hhx] at hha
    have hrz := Page_recordSizeAt (z := z) hp (show 2 + tsz pre < 64 by omega) hlx
    rw [← hrzx] at hrz
    have e1 : 2 + tsz pre + rsz x = 2 + tsz (pre ++ [x]) := by rw [tsz_app, tsz_one]; omega
    have e3 : (pre ++ [x]).length = pre.length + 1 := by simp
    rw [sX3_dealTo_12]
    by_cases hk : (((hsh x.1).toUInt32 >>> ((nI k).toUInt32 &&& Int32.toUInt32 31)).toInt32 &&& 1) = 0
    · have hb : hbt k x = false := by simp [hbt, hk]
      have f0 : (pre ++ [x]).filter (fun x => !hbt k x) = pre.filter (fun x => !hbt k x) ++ [x] := by rw [List.filter_append, List.filter_cons_of_pos (by simp [hb]), List.filter_nil]
      have f1 : (pre ++ [x]).filter (hbt k) = pre.filter (hbt k) := by rw [List.filter_append, List.filter_cons_of_neg (by simp [hb]), List.filter_nil, List.append_nil]
      obtain ⟨h1', h2, hK1, hK2, hK3, hq0, hfr⟩ := deal_one (z := z) hp hs hrs hp0 (by have := tsz_filter (fun x => !hbt k x) pre; omega) n1.2.2.2.2.2
      have hp' := hp.fr hfr (by simp; omega) (by simp; omega) (by simp; omega)
      have hq1 := hp1.fr hfr (by simp; omega) (by simp; omega) (by simp; omega)
      rw [← f0] at hq0
      rw [← f1] at hq1
      obtain ⟨h3, g1, g2, g3, g4⟩ := ih (pre ++ [x]) (by rw [hrs]; simp) h2 (.ref b0) (.int (nI (rsz x))) hp' hq0 hq1
      refine ⟨h3, ?_, g2, g3, (hfr.w (by intro y hy; simp at hy ⊢; omega)).t g4⟩
      rw [e3] at g1
      simp only [sX3_dealTo_0, sX3_dealTo_1, sX3_dealTo_4, sX3_dealTo_6, sX3_dealTo_7, sX3_dealTo_9, sX3_dealTo_10, sX3_dealTo_14, sX3_dealTo_16, sX3_dealTo_19, sX3_dealTo_20, sX3_dealTo_22, sX3_dealTo_25, sX3_dealTo_26, sX3_dealTo_27, sX3_dealTo_28, sX3_dealTo_29, sX3_dealTo_32, sX3_dealTo_33, sX3_dealTo_36, sX3_dealTo_37, sX3_dealTo_39, sX3_dealTo_40, sX3_dealTo_42, sX3_dealTo_45, sX3_dealTo_47, sX3_dealTo_49, sX3_dealTo_52, sX3_dealTo_54, sX3_dealTo_57, sX3_dealTo_58, sX3_dealTo_61, sX3_dealTo_63, sX3_dealTo_65, sX3_dealTo_68, sX3_dealTo_70, sX3_dealTo_72, sX3_dealTo_75, sX3_dealTo_77, sX3_dealTo_79, sX3_dealTo_80, sX3_dealTo_82, sX3_dealTo_85, sX3_dealTo_88, h1, hp.1, hp0.1, hp0.2.1, gf_0, gf_1, gf_2, gf_3, gf_4, gf_5, pf_0, pf_1, pf_2, pf_3, pf_4, pf_5, List.set_cons_zero, List.set_cons_succ, bd_v, bi_v, Option.toList, List.cons_append, List.nil_append, List.length_cons, List.length_nil, Nat.reduceAdd, Nat.reduceLeDiff, ck_in, nI_add, nI_1, if_false, if_true, hha, hrz, hk, not_true_eq_false, e1, hK1, hK2, hK3]
      exact g1
    · have hb : hbt k x = true := by simp [hbt, hk]
      have f0 : (pre ++ [x]).filter (fun x => !hbt k x) = pre.filter (fun x => !hbt k x) := by rw [List.filter_append, List.filter_cons_of_neg (by simp [hb]), List.filter_nil, List.append_nil]
      have f1 : (pre ++ [x]).filter (hbt k) = pre.filter (hbt k) ++ [x] := by rw [List.filter_append, List.filter_cons_of_pos (by simp [hb]), List.filter_nil]
      obtain ⟨h1', h2, hK1, hK2, hK3, hq1, hfr⟩ := deal_one (z := z) hp hs hrs hp1 (by have := tsz_filter (hbt k) pre; omega) n2.2.2.2.2.2
      have hp' := hp.fr hfr (by simp; omega) (by simp; omega) (by simp; omega)
      have hq0 := hp0.fr hfr (by simp; omega) (by simp; omega) (by simp; omega)
      rw [← f1] at hq1
      rw [← f0] at hq0
      obtain ⟨h3, g1, g2, g3, g4⟩ := ih (pre ++ [x]) (by rw [hrs]; simp) h2 (.ref b1) (.int (nI (rsz x))) hp' hq0 hq1
      refine ⟨h3, ?_, g2, g3, (hfr.w (by intro y hy; simp at hy ⊢; omega)).t g4⟩
      rw [e3] at g1
      simp only [sX3_dealTo_0, sX3_dealTo_1, sX3_dealTo_4, sX3_dealTo_6, sX3_dealTo_7, sX3_dealTo_9, sX3_dealTo_10, sX3_dealTo_14, sX3_dealTo_16, sX3_dealTo_19, sX3_dealTo_20, sX3_dealTo_22, sX3_dealTo_25, sX3_dealTo_26, sX3_dealTo_27, sX3_dealTo_28, sX3_dealTo_29, sX3_dealTo_32, sX3_dealTo_33, sX3_dealTo_36, sX3_dealTo_37, sX3_dealTo_39, sX3_dealTo_40, sX3_dealTo_42, sX3_dealTo_45, sX3_dealTo_47, sX3_dealTo_49, sX3_dealTo_52, sX3_dealTo_54, sX3_dealTo_57, sX3_dealTo_58, sX3_dealTo_61, sX3_dealTo_63, sX3_dealTo_65, sX3_dealTo_68, sX3_dealTo_70, sX3_dealTo_72, sX3_dealTo_75, sX3_dealTo_77, sX3_dealTo_79, sX3_dealTo_80, sX3_dealTo_82, sX3_dealTo_85, sX3_dealTo_88, h1, hp.1, hp1.1, hp1.2.1, gf_0, gf_1, gf_2, gf_3, gf_4, gf_5, pf_0, pf_1, pf_2, pf_3, pf_4, pf_5, List.set_cons_zero, List.set_cons_succ, bd_v, bi_v, Option.toList, List.cons_append, List.nil_append, List.length_cons, List.length_nil, Nat.reduceAdd, Nat.reduceLeDiff, ck_in, nI_add, nI_1, if_false, if_true, hha, hrz, hk, not_false_eq_true, e1, hK1, hK2, hK3]
      exact g1
theorem Page_dealTo {rs : List Rc} {b0 b1 d0 d1 k : Nat} {t0 t1 : Nat → Int32} (hs : 2 + tsz rs ≤ 60) (n1 : b ≠ b0 ∧ b ≠ b0 + 2 ∧ b + 1 ≠ b0 ∧ b + 1 ≠ b0 + 2 ∧ b + 2 ≠ b0 ∧ b + 2 ≠ b0 + 2) (n2 : b ≠ b1 ∧ b ≠ b1 + 2 ∧ b + 1 ≠ b1 ∧ b + 1 ≠ b1 + 2 ∧ b + 2 ≠ b1 ∧ b + 2 ≠ b1 + 2)
    (n3 : b0 ≠ b1 ∧ b0 ≠ b1 + 2 ∧ b0 + 1 ≠ b1 ∧ b0 + 1 ≠ b1 + 2 ∧ b0 + 2 ≠ b1 ∧ b0 + 2 ≠ b1 + 2 ∧ b1 + 1 ≠ b0 ∧ b1 + 1 ≠ b0 + 2) (hp : PgL h b (pgG d rs t) (2 + tsz rs)) (hp0 : PgL h b0 (pgG d0 [] t0) 2) (hp1 : PgL h b1 (pgG d1 [] t1) 2) :
    ∃ h', cl 50 [.ref b, .ref b0, .ref b1, .int (nI k)] (h, z) = some (.inl none, (h', z)) ∧
      PgL h' b0 (pgG d0 (rs.filter (fun x => !hbt k x)) t0) (2 + tsz (rs.filter (fun x => !hbt k x))) ∧ PgL h' b1 (pgG d1 (rs.filter (hbt k)) t1) (2 + tsz (rs.filter (hbt k))) ∧ fre [b0, b0 + 2, b1, b1 + 2] h h' := by
  obtain ⟨h', g1, g2⟩ := dealTo_l (z := z) (k := k) hs n1 n2 n3 rs [] rfl h am_jk am_jk hp hp0 hp1
  refine ⟨h', ?_, g2⟩
  rw [eX3_dealTo]
  simp only [sX3_dealTo_0, sX3_dealTo_1, sX3_dealTo_4, sX3_dealTo_6, sX3_dealTo_7, sX3_dealTo_9, sX3_dealTo_10, hp.1, bd_v, bi_v, Option.toList, List.cons_append, List.nil_append, List.length_cons, List.length_nil, Nat.reduceAdd, Nat.reduceLeDiff, ck_in, nI_add, nI_1, if_false, if_true, Page_records hp, pg_1]
  exact g1
end
