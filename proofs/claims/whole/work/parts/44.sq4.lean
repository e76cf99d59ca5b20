/-! Shelf: copyFrom; Journal; Alterations -/
section
variable {z : Nat × Nat × Nat} {s s' n : Nat}
theorem scopy_l {tf tf' : Nat → Int32} {D used acts D' used' acts' : Nat} {F F' : Nat → Nat → Int32} {E E' : Nat → Nat} (hn : n ≤ 40) (hd : s + 7 + 3 * n ≤ s' ∨ s' + 7 + 3 * n ≤ s) (hF : ∀ i j, i < n → 64 ≤ j → F i j = 0) (hF' : ∀ i j, i < n → 64 ≤ j → F' i j = 0) : ∀ (m i : Nat) (h : Nat → Option va_E), i + m = n →
    ShL h s n (fun j => if j < i then F' j else F j) (fun j => if j < i then E' j else E j) tf D used acts → ShL h s' n F' E' tf' D' used' acts' →
    ∃ h', rn 70 2 [.ref s, .ref s', .int (nI i)] [] (h, z) = rn 70 31 [.ref s, .ref s', .int (nI n)] [] (h', z) ∧ ShL h' s n F' E' tf D used acts ∧ frI s (s + 7 + 3 * n) h h' := by
  intro m
  induction m with
  | zero =>
    intro i h hi a b
    obtain ⟨c1, ⟨g, c2, c3⟩, c4, c5, c6, c7⟩ := id a
    have q1 : nI n ≤ nI i := by rw [nI_leI (by omega) (by omega)]; omega
    refine ⟨h, ?_, ⟨c1, ⟨g, c2, c3⟩, c4, c5, c6, fun j hj => ?_⟩, frI.r⟩
    · rw [sX5_copyFrom_2]
      simp only [sX5_copyFrom_0, sX5_copyFrom_1, sX5_copyFrom_3, sX5_copyFrom_4, sX5_copyFrom_7, sX5_copyFrom_8, sX5_copyFrom_11, sX5_copyFrom_12, sX5_copyFrom_15, sX5_copyFrom_16, sX5_copyFrom_17, sX5_copyFrom_18, sX5_copyFrom_19, sX5_copyFrom_22, sX5_copyFrom_25, sX5_copyFrom_28, sX5_copyFrom_32, sX5_copyFrom_35, sX5_copyFrom_36, sX5_copyFrom_39, sX5_copyFrom_42, sX5_copyFrom_43, sX5_copyFrom_44, sX5_copyFrom_47, sX5_copyFrom_50, sX5_copyFrom_51, sX5_copyFrom_52, sX5_copyFrom_55, sX5_copyFrom_58, sX5_copyFrom_59, sX5_copyFrom_60, sX5_copyFrom_63, sX5_copyFrom_66, c1, c2, gf_0, gf_1, gf_2, gf_3, gf_4, gf_5, pf_0, pf_1, pf_2, pf_3, pf_4, pf_5, List.set_cons_zero, List.set_cons_succ, lnr_in, q1, if_true]
      rw [show i = n by omega]
    · have q := c7 j hj
      dsimp only at q
      rw [if_pos (show j < i by omega), if_pos (show j < i by omega)] at q
      exact q
  | succ m ih =>
    intro i h hi a b
    obtain ⟨c1, ⟨g, c2, c3⟩, c4, c5, c6, c7⟩ := id a
    have q1 : ¬ nI n ≤ nI i := by rw [nI_leI (by omega) (by omega)]; omega
    have p1 := c7 i (by omega)
    dsimp only at p1
    rw [if_neg (Nat.lt_irrefl i), if_neg (Nat.lt_irrefl i)] at p1
    have p2 := b.2.2.2.2.2 i (by omega)
    have pc := Page_copyFrom (z := z) p1 p2 (by omega)
    rw [cpy_all (fun j hj => hF' i j (by omega) hj) (fun j hj => hF i j (by omega) hj)] at pc
    have p3 := (p1.row (F' i)).endu (E' i)
    generalize hh : am_up (am_up h (s + 7 + 3 * i + 2) (ints 64 (F' i))) (s + 7 + 3 * i) (obj 3 [.ref (s + 7 + 3 * i + 1), .int (nI (E' i))]) = h1 at pc p3
    have f1 : fre [s + 7 + 3 * i, s + 7 + 3 * i + 2] h h1 := by rw [← hh]; exact (fre.u (by simp)).t (fre.u (by simp))
    have fI : frI s (s + 7 + 3 * n) h h1 := frI.of f1 (by simp; omega)
    have sp := Shelf_page (z := z) b hn (k := i) (by omega)
    obtain ⟨Fs, es, hps, hFs⟩ := c4
    have a1 := a.pages (h' := h1) (F' := fun j => if j < i + 1 then F' j else F j) (E' := fun j => if j < i + 1 then E' j else E j) (f1 _ (by simp; omega)) (f1 _ (by simp; omega)) (f1 _ (by simp; omega)) (f1 _ (by simp; omega))
      ⟨Fs, es, hps.fr f1 (by simp; omega) (by simp; omega) (by simp; omega), hFs⟩ (fun j hj => by
        by_cases e : j = i
        · subst e
          rw [if_pos (by omega), if_pos (by omega)]
          exact p3
        · have q := (c7 j hj).fr f1 (by simp; omega) (by simp; omega) (by simp; omega)
          dsimp only at q
          by_cases e2 : j < i
          · rw [if_pos e2, if_pos e2] at q
            rw [if_pos (by omega), if_pos (by omega)]
            exact q
          · rw [if_neg e2, if_neg e2] at q
            rw [if_neg (by omega), if_neg (by omega)]
            exact q)
    obtain ⟨h', y1, y2, y3⟩ := ih (i + 1) h1 (by omega) a1 (b.fr (fun x hx1 hx2 => fI x (by omega)))
    refine ⟨h', ?_, y2, fI.t y3⟩
    rw [sX5_copyFrom_2]
    simp only [sX5_copyFrom_0, sX5_copyFrom_1, sX5_copyFrom_3, sX5_copyFrom_4, sX5_copyFrom_7, sX5_copyFrom_8, sX5_copyFrom_11, sX5_copyFrom_12, sX5_copyFrom_15, sX5_copyFrom_16, sX5_copyFrom_17, sX5_copyFrom_18, sX5_copyFrom_19, sX5_copyFrom_22, sX5_copyFrom_25, sX5_copyFrom_28, sX5_copyFrom_32, sX5_copyFrom_35, sX5_copyFrom_36, sX5_copyFrom_39, sX5_copyFrom_42, sX5_copyFrom_43, sX5_copyFrom_44, sX5_copyFrom_47, sX5_copyFrom_50, sX5_copyFrom_51, sX5_copyFrom_52, sX5_copyFrom_55, sX5_copyFrom_58, sX5_copyFrom_59, sX5_copyFrom_60, sX5_copyFrom_63, sX5_copyFrom_66, c1, c2, gf_0, gf_1, gf_2, gf_3, gf_4, gf_5, pf_0, pf_1, pf_2, pf_3, pf_4, pf_5, List.set_cons_zero, List.set_cons_succ, lnr_in, q1, bd_v, bi_v, Option.toList, List.cons_append, List.nil_append, List.length_cons, List.length_nil, Nat.reduceAdd, Nat.reduceLeDiff, ck_in, nI_add, nI_1, if_false, if_true, rl_in (show i < n by omega) (show n ≤ 100000 by omega), c3 i (by omega), rf_some, b.1, sp, p1.1, pc]
    exact y1
theorem Shelf_copyFrom {h : Nat → Option va_E} {tf : Nat → Int32} {D used acts : Nat} {F : Nat → Nat → Int32} {E : Nat → Nat} {S : Sh} (hn : n ≤ 40) (hd : s + 7 + 3 * n ≤ s' ∨ s' + 7 + 3 * n ≤ s) (hF : ∀ i j, i < n → 64 ≤ j → F i j = 0) (a : ShL h s n F E tf D used acts) (b : ShS h s' n S) (w : WF n S) :
    ∃ h', cl 70 [.ref s, .ref s'] (h, z) = some (.inl none, (h', z)) ∧ ShS h' s n S ∧ frI s (s + 7 + 3 * n) h h' := by
  obtain ⟨tf', b1, b2⟩ := b
  obtain ⟨h1, y1, y2, y3⟩ := scopy_l (z := z) (F := F) (E := E) (F' := fun i => pgF (S.dep i) (S.rec i)) (E' := fun i => 2 + tsz (S.rec i)) hn hd hF (fun i j _ hj => pgF_64 (S.dep i) (S.rec i) hj) n 0 h (by omega) (by
    refine ⟨a.1, a.2.1, a.2.2.1, a.2.2.2.1, a.2.2.2.2.1, fun i hi => ?_⟩
    dsimp only
    rw [if_neg (Nat.not_lt_zero i), if_neg (Nat.not_lt_zero i)]
    exact a.2.2.2.2.2 i hi) b1
  have b3 := b1.fr (h' := h1) (fun x hx1 hx2 => y3 x (by omega))
  have rc := Row_copyFrom (z := z) y2.2.2.2.1 y2.2.2.2.2.1 (by omega) b3.2.2.2.1 b3.2.2.2.2.1
  have y4 := y2.tab (cpy tf' tf 0 0 32)
  have y5 := y4.head S.D S.used S.acts
  refine ⟨_, ?_, ⟨_, y5, fun e he => ?_⟩, y3.t ((frI.u (by omega) (by omega)).t (frI.u (by omega) (by omega)))⟩
  · rw [eX5_copyFrom]
    simp only [sX5_copyFrom_0, sX5_copyFrom_1]
    rw [show (0 : Int32) = nI 0 from rfl, y1, sX5_copyFrom_31]
    have n1 : s' ≠ s := by omega
    have n2 : s' ≠ s + 5 := by omega
    simp only [sX5_copyFrom_0, sX5_copyFrom_1, sX5_copyFrom_3, sX5_copyFrom_4, sX5_copyFrom_7, sX5_copyFrom_8, sX5_copyFrom_11, sX5_copyFrom_12, sX5_copyFrom_15, sX5_copyFrom_16, sX5_copyFrom_17, sX5_copyFrom_18, sX5_copyFrom_19, sX5_copyFrom_22, sX5_copyFrom_25, sX5_copyFrom_28, sX5_copyFrom_32, sX5_copyFrom_35, sX5_copyFrom_36, sX5_copyFrom_39, sX5_copyFrom_42, sX5_copyFrom_43, sX5_copyFrom_44, sX5_copyFrom_47, sX5_copyFrom_50, sX5_copyFrom_51, sX5_copyFrom_52, sX5_copyFrom_55, sX5_copyFrom_58, sX5_copyFrom_59, sX5_copyFrom_60, sX5_copyFrom_63, sX5_copyFrom_66, y2.1, b3.1, y2.2.2.2.1, gf_0, gf_1, gf_2, gf_3, gf_4, gf_5, pf_0, pf_1, pf_2, pf_3, pf_4, pf_5, List.set_cons_zero, List.set_cons_succ, bd_v, bi_v, Option.toList, List.cons_append, List.nil_append, List.length_cons, List.length_nil, Nat.reduceAdd, Nat.reduceLeDiff, ck_in, nI_add, nI_1, if_false, if_true, rc, y4.1, up_n n1, up_n n2, up_s, up_up]
  · have := pow32 w.1
    rw [cpy_in (by omega) (by omega), ← b2 e he]
    congr 1
    omega
end
def JrL (h : Nat → Option va_E) (j : Nat) (J : Nat → Int32) (jl : Nat) : Prop := h j = some (obj 1 [.ref (j + 1), .int (nI jl)]) ∧ h (j + 1) = some (obj 4 [.ref (j + 2)]) ∧ h (j + 2) = some (ints 600 J)
/-- the journal with an act more -/
def japp (J : Nat → Int32) (jl : Nat) (nm : List Int32) (v : Int32) : Nat → Int32 := fun j =>
  if jl ≤ j ∧ j < jl + (nm.length + 5) then (enc (nm, v)).getD (j - jl) 0 else if j = jl + (nm.length + 5) then sm mix (fun i => (enc (nm, v)).getD i 0) 0 (nm.length + 5) 0 &&& 255 else J j
theorem japp_w (J : Nat → Int32) (jl l : Nat) (f : Nat → Int32) (v : Int32) : upd (recw J jl l f v) (jl + (l + 5)) (sm mix (recw J jl l f v) jl (l + 5) 0 &&& 255) = japp J jl (nmof l f) v := by
  funext j
  unfold upd japp
  rw [nmof_len]
  by_cases h1 : j = jl + (l + 5)
  · rw [if_pos h1, if_neg (by omega), if_pos h1]
    congr 1
    exact sm_congr2 _ _ _ _ (fun i hi => by rw [Nat.zero_add]; exact recw_at hi)
  · rw [if_neg h1]
    by_cases h2 : jl ≤ j ∧ j < jl + (l + 5)
    · rw [if_pos h2]
      have := recw_at (g := J) (f := f) (p := jl) (l := l) (v := v) (i := j - jl) (by omega)
      rw [show jl + (j - jl) = j by omega] at this
      exact this
    · rw [if_neg h2, if_neg h1, recw_out (by omega)]
/-- whether a whole act lies there -/
def whl (J : Nat → Int32) (jl at' : Nat) : Bool := decide (at' < jl ∧ 1 ≤ un (J at') ∧ un (J at') ≤ 12 ∧ at' + un (J at') + 6 ≤ jl ∧ J (at' + un (J at') + 5) = sm mix J at' (un (J at') + 5) 0 &&& 255)
theorem toInt_un (x : Int32) : x.toInt = if un x < 2 ^ 31 then (un x : Int) else (un x : Int) - 2 ^ 32 := by
  have h := un_lt x
  have e : x.toInt = x.toBitVec.toInt := rfl
  rw [e, BitVec.toInt_eq_toNat_cond]
  show (if 2 * un x < 2 ^ 32 then (un x : Int) else (un x : Int) - ((2 ^ 32 : Nat) : Int)) = _
  by_cases h1 : un x < 2 ^ 31
  · rw [if_pos h1, if_pos (by omega)]
  · rw [if_neg h1, if_neg (by omega)]; rfl
theorem lt_un {x : Int32} {k : Nat} (hk : k < 2 ^ 31) : x < nI k ↔ (un x < k ∨ 2 ^ 31 ≤ un x) := by
  rw [Int32.lt_iff_toInt_lt, nI_toInt hk, toInt_un]
  have h := un_lt x
  by_cases h1 : un x < 2 ^ 31
  · rw [if_pos h1]; omega
  · rw [if_neg h1]; omega
theorem gt_un {x : Int32} {k : Nat} (hk : k < 2 ^ 31) : nI k < x ↔ (k < un x ∧ un x < 2 ^ 31) := by
  rw [Int32.lt_iff_toInt_lt, nI_toInt hk, toInt_un]
  have h := un_lt x
  by_cases h1 : un x < 2 ^ 31
  · rw [if_pos h1]; omega
  · rw [if_neg h1]; omega
theorem le_un {x : Int32} {k : Nat} (hk : k < 2 ^ 31) : nI k ≤ x ↔ (k ≤ un x ∧ un x < 2 ^ 31) := by
  rw [Int32.le_iff_toInt_le, nI_toInt hk, toInt_un]
  have h := un_lt x
  by_cases h1 : un x < 2 ^ 31
  · rw [if_pos h1]; omega
  · rw [if_neg h1]; omega
theorem ge_un {x : Int32} {k : Nat} (hk : k < 2 ^ 31) : x ≤ nI k ↔ (un x ≤ k ∨ 2 ^ 31 ≤ un x) := by
  rw [Int32.le_iff_toInt_le, nI_toInt hk, toInt_un]
  have h := un_lt x
  by_cases h1 : un x < 2 ^ 31
  · rw [if_pos h1]; omega
  · rw [if_neg h1]; omega
section
variable {h : Nat → Option va_E} {z : Nat × Nat × Nat} {j jl : Nat} {J : Nat → Int32}
theorem Jr_length (a : JrL h j J jl) : cl 31 [.ref j] (h, z) = some (.inl (some (.int (nI jl))), (h, z)) := by
  rw [eX1_length]
  simp only [sX1_length_0, sX1_length_1, sX1_length_4, a.1, gf_0, gf_1, gf_2, gf_3, gf_4, gf_5, pf_0, pf_1, pf_2, pf_3, pf_4, pf_5, List.set_cons_zero, List.set_cons_succ]
theorem Jr_cutTo (a : JrL h j J jl) (k : Nat) : cl 30 [.ref j, .int (nI k)] (h, z) = some (.inl none, (am_up h j (obj 1 [.ref (j + 1), .int (nI k)]), z)) := by
  rw [eX1_cutTo]
  simp only [sX1_cutTo_0, sX1_cutTo_1, sX1_cutTo_2, sX1_cutTo_5, a.1, gf_0, gf_1, gf_2, gf_3, gf_4, gf_5, pf_0, pf_1, pf_2, pf_3, pf_4, pf_5, List.set_cons_zero, List.set_cons_succ]
theorem JrL.cut (a : JrL h j J jl) (k : Nat) : JrL (am_up h j (obj 1 [.ref (j + 1), .int (nI k)])) j J k := ⟨up_s _ _ _, by rw [up_n (by omega)]; exact a.2.1, by rw [up_n (by omega)]; exact a.2.2⟩
theorem JrL.row (a : JrL h j J jl) (J' : Nat → Int32) : JrL (am_up h (j + 2) (ints 600 J')) j J' jl := ⟨by rw [up_n (by omega)]; exact a.1, by rw [up_n (by omega)]; exact a.2.1, up_s _ _ _⟩
theorem Jr_flip (a : JrL h j J jl) {k : Nat} (hk : k < 600) (x : Int32) : cl 36 [.ref j, .int (nI k), .int x] (h, z) = some (.inl none, (am_up h (j + 2) (ints 600 (upd J k (J k ^^^ x))), z)) := by
  rw [eX1_flip]
  simp only [sX1_flip_0, sX1_flip_1, sX1_flip_4, sX1_flip_5, sX1_flip_6, sX1_flip_9, a.1, a.2.1, gf_0, gf_1, gf_2, gf_3, gf_4, gf_5, pf_0, pf_1, pf_2, pf_3, pf_4, pf_5, List.set_cons_zero, List.set_cons_succ, bd_v, bi_v, Option.toList, List.cons_append, List.nil_append, List.length_cons, List.length_nil, Nat.reduceAdd, Nat.reduceLeDiff, ck_in, nI_add, nI_1, if_false, if_true, Row_flip a.2.1 a.2.2 (by omega) hk]
theorem Jr_check (a : JrL h j J jl) {p m : Nat} (hk : p + m ≤ 600) : cl 29 [.ref j, .int (nI p), .int (nI m)] (h, z) = some (.inl (some (.int (sm mix J p m 0 &&& 255))), (h, z)) := by
  rw [eX1_checkByte]
  simp only [sX1_checkByte_0, sX1_checkByte_1, sX1_checkByte_4, sX1_checkByte_5, sX1_checkByte_6, sX1_checkByte_9, sX1_checkByte_12, sX1_checkByte_13, a.1, a.2.1, gf_0, gf_1, gf_2, gf_3, gf_4, gf_5, pf_0, pf_1, pf_2, pf_3, pf_4, pf_5, List.set_cons_zero, List.set_cons_succ, bd_v, bi_v, Option.toList, List.cons_append, List.nil_append, List.length_cons, List.length_nil, Nat.reduceAdd, Nat.reduceLeDiff, ck_in, nI_add, nI_1, if_false, if_true, Row_sum a.2.1 a.2.2 (by omega) hk]
theorem Jr_actSize (a : JrL h j J jl) {p m : Nat} (hk : p < 600) (hm : J p = nI m) : cl 33 [.ref j, .int (nI p)] (h, z) = some (.inl (some (.int (nI (m + 6)))), (h, z)) := by
  rw [eX1_actSizeAt]
  simp only [sX1_actSizeAt_0, sX1_actSizeAt_1, sX1_actSizeAt_4, sX1_actSizeAt_5, sX1_actSizeAt_8, sX1_actSizeAt_11, sX1_actSizeAt_12, sX1_actSizeAt_13, a.1, a.2.1, gf_0, gf_1, gf_2, gf_3, gf_4, gf_5, pf_0, pf_1, pf_2, pf_3, pf_4, pf_5, List.set_cons_zero, List.set_cons_succ, bd_v, bi_v, Option.toList, List.cons_append, List.nil_append, List.length_cons, List.length_nil, Nat.reduceAdd, Nat.reduceLeDiff, ck_in, nI_add, nI_1, if_false, if_true, Row_get a.2.1 a.2.2 (by omega) hk, hm, Name_rso]
theorem Jr_number (a : JrL h j J jl) {p m : Nat} (hk : p + 1 + m + 4 ≤ 600) (hm : J p = nI m) : cl 35 [.ref j, .int (nI p)] (h, z) = some (.inl (some (.int (num J (p + 1 + m)))), (h, z)) := by
  rw [eX1_numberAt]
  simp only [sX1_numberAt_0, sX1_numberAt_1, sX1_numberAt_4, sX1_numberAt_5, sX1_numberAt_6, sX1_numberAt_7, sX1_numberAt_8, sX1_numberAt_11, sX1_numberAt_12, sX1_numberAt_15, sX1_numberAt_16, sX1_numberAt_19, a.1, a.2.1, gf_0, gf_1, gf_2, gf_3, gf_4, gf_5, pf_0, pf_1, pf_2, pf_3, pf_4, pf_5, List.set_cons_zero, List.set_cons_succ, bd_v, bi_v, Option.toList, List.cons_append, List.nil_append, List.length_cons, List.length_nil, Nat.reduceAdd, Nat.reduceLeDiff, ck_in, nI_add, nI_1, if_false, if_true, Row_get a.2.1 a.2.2 (by omega) (show p < 600 by omega), hm, Row_number a.2.1 a.2.2 (by omega) hk]
theorem Jr_readName (a : JrL h j J jl) {nb nr na l : Nat} {f : Nat → Int32} (hb : NameAt h nb nr na l f) (hne : j + 2 ≠ na) {p m : Nat} (hp : p + 1 + m ≤ 600) (hm : J p = nI m) (hm12 : m ≤ 12) : cl 34 [.ref j, .int (nI p), .ref nb] (h, z) = some (.inl none, (am_up (am_up h nb (obj 2 [.ref nr, .int (nI m)])) na (ints 12 (cpy J f (p + 1) 0 m)), z)) := by
  rw [eX1_readName]
  simp only [sX1_readName_0, sX1_readName_1, sX1_readName_2, sX1_readName_5, sX1_readName_6, sX1_readName_9, a.1, hb.1, gf_0, gf_1, gf_2, gf_3, gf_4, gf_5, pf_0, pf_1, pf_2, pf_3, pf_4, pf_5, List.set_cons_zero, List.set_cons_succ, bd_v, bi_v, Option.toList, List.cons_append, List.nil_append, List.length_cons, List.length_nil, Nat.reduceAdd, Nat.reduceLeDiff, ck_in, nI_add, nI_1, if_false, if_true, Name_readRecord hb a.2.1 a.2.2 (by omega) hne hp hm hm12]
theorem Jr_hasRoom (a : JrL h j J jl) (hj : jl ≤ 600) {nb nr na l : Nat} {f : Nat → Int32} (hb : NameAt h nb nr na l f) : cl 27 [.ref j, .ref nb] (h, z) = some (.inl (some (.int (if 600 < jl + (l + 6) then 0 else 1))), (h, z)) := by
  have hl := hb.2.2.2
  have e : ((600 : Int32) < nI (jl + (l + 5) + 1)) ↔ 600 < jl + (l + 6) := by rw [show (600 : Int32) = nI 600 from rfl, nI_ltI (by omega) (by omega)]; omega
  rw [eX1_hasRoomFor]
  by_cases c : 600 < jl + (l + 6)
  · rw [if_pos c]
    simp only [sX1_hasRoomFor_0, sX1_hasRoomFor_1, sX1_hasRoomFor_4, sX1_hasRoomFor_5, sX1_hasRoomFor_8, sX1_hasRoomFor_9, sX1_hasRoomFor_10, sX1_hasRoomFor_11, sX1_hasRoomFor_14, sX1_hasRoomFor_17, sX1_hasRoomFor_18, sX1_hasRoomFor_21, sX1_hasRoomFor_22, sX1_hasRoomFor_22t, a.1, hb.1, gf_0, gf_1, gf_2, gf_3, gf_4, gf_5, pf_0, pf_1, pf_2, pf_3, pf_4, pf_5, List.set_cons_zero, List.set_cons_succ, bd_v, bi_v, Option.toList, List.cons_append, List.nil_append, List.length_cons, List.length_nil, Nat.reduceAdd, Nat.reduceLeDiff, ck_in, nI_add, nI_1, if_false, if_true, Name_recordSize hb, e.mpr c]
  · rw [if_neg c]
    have c' := mt e.mp c
    simp only [sX1_hasRoomFor_0, sX1_hasRoomFor_1, sX1_hasRoomFor_4, sX1_hasRoomFor_5, sX1_hasRoomFor_8, sX1_hasRoomFor_9, sX1_hasRoomFor_10, sX1_hasRoomFor_11, sX1_hasRoomFor_14, sX1_hasRoomFor_17, sX1_hasRoomFor_18, sX1_hasRoomFor_21, sX1_hasRoomFor_22, sX1_hasRoomFor_22t, a.1, hb.1, gf_0, gf_1, gf_2, gf_3, gf_4, gf_5, pf_0, pf_1, pf_2, pf_3, pf_4, pf_5, List.set_cons_zero, List.set_cons_succ, bd_v, bi_v, Option.toList, List.cons_append, List.nil_append, List.length_cons, List.length_nil, Nat.reduceAdd, Nat.reduceLeDiff, ck_in, nI_add, nI_1, if_false, if_true, Name_recordSize hb, c']
theorem Jr_append (a : JrL h j J jl) {nb nr na l : Nat} {f : Nat → Int32} (hb : NameAt h nb nr na l f) (hr : jl + (l + 6) ≤ 600) (o1 : nb ≠ j + 2) (o2 : na ≠ j + 2) (v : Int32) : cl 28 [.ref j, .ref nb, .int v] (h, z) = some (.inl none, (am_up (am_up h (j + 2) (ints 600 (japp J jl (nmof l f) v))) j (obj 1 [.ref (j + 1), .int (nI (jl + (l + 6)))]), z)) := by
  have w := Name_writeRecord (z := z) hb a.2.1 a.2.2 (by omega) o2 (p := jl) (by omega) v
  have a2 := a.row (recw J jl l f v)
  have hb2 : NameAt (am_up h (j + 2) (ints 600 (recw J jl l f v))) nb nr na l f := ⟨by rw [up_n o1]; exact hb.1, by rw [up_n (ne_oa hb.2.1 a.2.2)]; exact hb.2.1, by rw [up_n o2]; exact hb.2.2.1, hb.2.2.2⟩
  have ck := Jr_check (z := z) a2 (p := jl) (m := l + 5) (by omega)
  have st := Row_set (z := z) a2.2.1 a2.2.2 (by omega) (k := jl + (l + 5)) (by omega) (sm mix (recw J jl l f v) jl (l + 5) 0 &&& 255)
  rw [japp_w, up_up] at st
  have a3 := a.row (japp J jl (nmof l f) v)
  have hb3 : NameAt (am_up h (j + 2) (ints 600 (japp J jl (nmof l f) v))) nb nr na l f := ⟨by rw [up_n o1]; exact hb.1, by rw [up_n (ne_oa hb.2.1 a.2.2)]; exact hb.2.1, by rw [up_n o2]; exact hb.2.2.1, hb.2.2.2⟩
  rw [eX1_append]
  simp only [sX1_append_0, sX1_append_1, sX1_append_2, sX1_append_5, sX1_append_6, sX1_append_9, sX1_append_10, sX1_append_13, sX1_append_14, sX1_append_17, sX1_append_18, sX1_append_21, sX1_append_22, sX1_append_25, sX1_append_26, sX1_append_27, sX1_append_28, sX1_append_31, sX1_append_32, sX1_append_35, sX1_append_38, sX1_append_41, sX1_append_42, sX1_append_42i, sX1_append_43, sX1_append_46, sX1_append_47, sX1_append_50, sX1_append_51, sX1_append_52, sX1_append_53, sX1_append_56, a.1, hb.1, gf_0, gf_1, gf_2, gf_3, gf_4, gf_5, pf_0, pf_1, pf_2, pf_3, pf_4, pf_5, List.set_cons_zero, List.set_cons_succ, bd_v, bi_v, Option.toList, List.cons_append, List.nil_append, List.length_cons, List.length_nil, Nat.reduceAdd, Nat.reduceLeDiff, ck_in, nI_add, nI_1, if_false, if_true, w, a2.1, a2.2.1, hb2.1, Name_recordSize hb2, ck, st, a3.1, hb3.1, Name_recordSize hb3]
theorem Jr_whole (a : JrL h j J jl) (hj : jl ≤ 600) {p : Nat} (hp : p ≤ 600) : cl 32 [.ref j, .int (nI p)] (h, z) = some (.inl (some (.int (if whl J jl p then 1 else 0))), (h, z)) := by
  rw [eX1_isWholeAt]
  have e1 : (nI p < nI jl) ↔ p < jl := nI_ltI (by omega) (by omega)
  by_cases c1 : p < jl
  · have e2 : (J p < 1) ↔ (un (J p) < 1 ∨ 2 ^ 31 ≤ un (J p)) := lt_un (k := 1) (by omega)
    have e3 : (12 < J p) ↔ (12 < un (J p) ∧ un (J p) < 2 ^ 31) := gt_un (k := 12) (by omega)
    have hg := Row_get (z := z) a.2.1 a.2.2 (by omega) (show p < 600 by omega)
    have c1' := e1.mpr c1
    by_cases c2 : 1 ≤ un (J p) ∧ un (J p) ≤ 12
    · have e2' : ¬ (J p < 1) := fun q => by have := e2.mp q; omega
      have e3' : ¬ (12 < J p) := fun q => by have := e3.mp q; omega
      have hm : J p = nI (un (J p)) := (nI_un _).symm
      have ha := Jr_actSize (z := z) a (p := p) (by omega) hm
      have e4 : (nI (p + (un (J p) + 6)) ≤ nI jl) ↔ p + (un (J p) + 6) ≤ jl := nI_leI (by omega) (by omega)
      by_cases c3 : p + (un (J p) + 6) ≤ jl
      · have c3' := e4.mpr c3
        have hg2 := Row_get (z := z) a.2.1 a.2.2 (by omega) (show p + (un (J p) + 5) < 600 by omega)
        have hc := Jr_check (z := z) a (p := p) (m := un (J p) + 5) (by omega)
        have hso := Name_rso (m := un (J p)) (σ := (h, z))
        rw [nI_un] at hso
        by_cases c4 : J (p + (un (J p) + 5)) = sm mix J p (un (J p) + 5) 0 &&& 255
        · rw [if_pos (show whl J jl p = true by unfold whl; rw [decide_eq_true_eq]; exact ⟨c1, c2.1, c2.2, by omega, c4⟩)]
          have c4' : ¬ ¬ (J (p + (un (J p) + 5)) = sm mix J p (un (J p) + 5) 0 &&& 255) := fun q => q c4
          simp only [sX1_isWholeAt_0, sX1_isWholeAt_1, sX1_isWholeAt_2, sX1_isWholeAt_5, sX1_isWholeAt_8, sX1_isWholeAt_9, sX1_isWholeAt_9t, sX1_isWholeAt_10, sX1_isWholeAt_11, sX1_isWholeAt_14, sX1_isWholeAt_15, sX1_isWholeAt_18, sX1_isWholeAt_19, sX1_isWholeAt_20, sX1_isWholeAt_21, sX1_isWholeAt_24, sX1_isWholeAt_25, sX1_isWholeAt_27, sX1_isWholeAt_30, sX1_isWholeAt_31, sX1_isWholeAt_32, sX1_isWholeAt_33, sX1_isWholeAt_36, sX1_isWholeAt_37, sX1_isWholeAt_38, sX1_isWholeAt_41, sX1_isWholeAt_44, sX1_isWholeAt_45, sX1_isWholeAt_45t, sX1_isWholeAt_46, sX1_isWholeAt_47, sX1_isWholeAt_50, sX1_isWholeAt_51, sX1_isWholeAt_52, sX1_isWholeAt_55, sX1_isWholeAt_56, sX1_isWholeAt_57, sX1_isWholeAt_58, sX1_isWholeAt_61, sX1_isWholeAt_62, sX1_isWholeAt_63, sX1_isWholeAt_64, sX1_isWholeAt_67, sX1_isWholeAt_70, sX1_isWholeAt_71, sX1_isWholeAt_74, sX1_isWholeAt_75, sX1_isWholeAt_75t, a.1, a.2.1, gf_0, gf_1, gf_2, gf_3, gf_4, gf_5, pf_0, pf_1, pf_2, pf_3, pf_4, pf_5, List.set_cons_zero, List.set_cons_succ, bd_v, bi_v, Option.toList, List.cons_append, List.nil_append, List.length_cons, List.length_nil, Nat.reduceAdd, Nat.reduceLeDiff, ck_in, nI_add, nI_1, if_false, if_true, c1', hg, e2', e3', ha, c3', hso, hg2, hc, c4']
        · rw [if_neg (show ¬ whl J jl p = true by unfold whl; rw [decide_eq_true_eq]; exact fun q => c4 q.2.2.2.2)]
          simp only [sX1_isWholeAt_0, sX1_isWholeAt_1, sX1_isWholeAt_2, sX1_isWholeAt_5, sX1_isWholeAt_8, sX1_isWholeAt_9, sX1_isWholeAt_9t, sX1_isWholeAt_10, sX1_isWholeAt_11, sX1_isWholeAt_14, sX1_isWholeAt_15, sX1_isWholeAt_18, sX1_isWholeAt_19, sX1_isWholeAt_20, sX1_isWholeAt_21, sX1_isWholeAt_24, sX1_isWholeAt_25, sX1_isWholeAt_27, sX1_isWholeAt_30, sX1_isWholeAt_31, sX1_isWholeAt_32, sX1_isWholeAt_33, sX1_isWholeAt_36, sX1_isWholeAt_37, sX1_isWholeAt_38, sX1_isWholeAt_41, sX1_isWholeAt_44, sX1_isWholeAt_45, sX1_isWholeAt_45t, sX1_isWholeAt_46, sX1_isWholeAt_47, sX1_isWholeAt_50, sX1_isWholeAt_51, sX1_isWholeAt_52, sX1_isWholeAt_55, sX1_isWholeAt_56, sX1_isWholeAt_57, sX1_isWholeAt_58, sX1_isWholeAt_61, sX1_isWholeAt_62, sX1_isWholeAt_63, sX1_isWholeAt_64, sX1_isWholeAt_67, sX1_isWholeAt_70, sX1_isWholeAt_71, sX1_isWholeAt_74, sX1_isWholeAt_75, sX1_isWholeAt_75t, a.1, a.2.1, gf_0, gf_1, gf_2, gf_3, gf_4, gf_5, pf_0, pf_1, pf_2, pf_3, pf_4, pf_5, List.set_cons_zero, List.set_cons_succ, bd_v, bi_v, Option.toList, List.cons_append, List.nil_append, List.length_cons, List.length_nil, Nat.reduceAdd, Nat.reduceLeDiff, ck_in, nI_add, nI_1, if_false, if_true, c1', hg, e2', e3', ha, c3', hso, hg2, hc, c4, not_false_eq_true]
      · have c3' := mt e4.mp c3
        rw [if_neg (show ¬ whl J jl p = true by unfold whl; rw [decide_eq_true_eq]; exact fun q => c3 (by omega))]
        simp only [sX1_isWholeAt_0, sX1_isWholeAt_1, sX1_isWholeAt_2, sX1_isWholeAt_5, sX1_isWholeAt_8, sX1_isWholeAt_9, sX1_isWholeAt_9t, sX1_isWholeAt_10, sX1_isWholeAt_11, sX1_isWholeAt_14, sX1_isWholeAt_15, sX1_isWholeAt_18, sX1_isWholeAt_19, sX1_isWholeAt_20, sX1_isWholeAt_21, sX1_isWholeAt_24, sX1_isWholeAt_25, sX1_isWholeAt_27, sX1_isWholeAt_30, sX1_isWholeAt_31, sX1_isWholeAt_32, sX1_isWholeAt_33, sX1_isWholeAt_36, sX1_isWholeAt_37, sX1_isWholeAt_38, sX1_isWholeAt_41, sX1_isWholeAt_44, sX1_isWholeAt_45, sX1_isWholeAt_45t, sX1_isWholeAt_46, sX1_isWholeAt_47, sX1_isWholeAt_50, sX1_isWholeAt_51, sX1_isWholeAt_52, sX1_isWholeAt_55, sX1_isWholeAt_56, sX1_isWholeAt_57, sX1_isWholeAt_58, sX1_isWholeAt_61, sX1_isWholeAt_62, sX1_isWholeAt_63, sX1_isWholeAt_64, sX1_isWholeAt_67, sX1_isWholeAt_70, sX1_isWholeAt_71, sX1_isWholeAt_74, sX1_isWholeAt_75, sX1_isWholeAt_75t, a.1, a.2.1, gf_0, gf_1, gf_2, gf_3, gf_4, gf_5, pf_0, pf_1, pf_2, pf_3, pf_4, pf_5, List.set_cons_zero, List.set_cons_succ, bd_v, bi_v, Option.toList, List.cons_append, List.nil_append, List.length_cons, List.length_nil, Nat.reduceAdd, Nat.reduceLeDiff, ck_in, nI_add, nI_1, if_false, if_true, c1', hg, e2', e3', ha, c3']
    · rw [if_neg (show ¬ whl J jl p = true by unfold whl; rw [decide_eq_true_eq]; exact fun q => c2 ⟨q.2.1, q.2.2.1⟩)]
      have hlt := un_lt (J p)
      by_cases q1 : J p < 1
      · simp only [sX1_isWholeAt_0, sX1_isWholeAt_1, sX1_isWholeAt_2, sX1_isWholeAt_5, sX1_isWholeAt_8, sX1_isWholeAt_9, sX1_isWholeAt_9t, sX1_isWholeAt_10, sX1_isWholeAt_11, sX1_isWholeAt_14, sX1_isWholeAt_15, sX1_isWholeAt_18, sX1_isWholeAt_19, sX1_isWholeAt_20, sX1_isWholeAt_21, sX1_isWholeAt_24, sX1_isWholeAt_25, sX1_isWholeAt_27, sX1_isWholeAt_30, sX1_isWholeAt_31, sX1_isWholeAt_32, sX1_isWholeAt_33, sX1_isWholeAt_36, sX1_isWholeAt_37, sX1_isWholeAt_38, sX1_isWholeAt_41, sX1_isWholeAt_44, sX1_isWholeAt_45, sX1_isWholeAt_45t, sX1_isWholeAt_46, sX1_isWholeAt_47, sX1_isWholeAt_50, sX1_isWholeAt_51, sX1_isWholeAt_52, sX1_isWholeAt_55, sX1_isWholeAt_56, sX1_isWholeAt_57, sX1_isWholeAt_58, sX1_isWholeAt_61, sX1_isWholeAt_62, sX1_isWholeAt_63, sX1_isWholeAt_64, sX1_isWholeAt_67, sX1_isWholeAt_70, sX1_isWholeAt_71, sX1_isWholeAt_74, sX1_isWholeAt_75, sX1_isWholeAt_75t, a.1, a.2.1, gf_0, gf_1, gf_2, gf_3, gf_4, gf_5, pf_0, pf_1, pf_2, pf_3, pf_4, pf_5, List.set_cons_zero, List.set_cons_succ, bd_v, bi_v, Option.toList, List.cons_append, List.nil_append, List.length_cons, List.length_nil, Nat.reduceAdd, Nat.reduceLeDiff, ck_in, nI_add, nI_1, if_false, if_true, c1', hg, q1]
      · have q2 : 12 < J p := by
          rw [e3]
          have : ¬ (un (J p) < 1 ∨ 2 ^ 31 ≤ un (J p)) := fun q => q1 (e2.mpr q)
          omega
        simp only [sX1_isWholeAt_0, sX1_isWholeAt_1, sX1_isWholeAt_2, sX1_isWholeAt_5, sX1_isWholeAt_8, sX1_isWholeAt_9, sX1_isWholeAt_9t, sX1_isWholeAt_10, sX1_isWholeAt_11, sX1_isWholeAt_14, sX1_isWholeAt_15, sX1_isWholeAt_18, sX1_isWholeAt_19, sX1_isWholeAt_20, sX1_isWholeAt_21, sX1_isWholeAt_24, sX1_isWholeAt_25, sX1_isWholeAt_27, sX1_isWholeAt_30, sX1_isWholeAt_31, sX1_isWholeAt_32, sX1_isWholeAt_33, sX1_isWholeAt_36, sX1_isWholeAt_37, sX1_isWholeAt_38, sX1_isWholeAt_41, sX1_isWholeAt_44, sX1_isWholeAt_45, sX1_isWholeAt_45t, sX1_isWholeAt_46, sX1_isWholeAt_47, sX1_isWholeAt_50, sX1_isWholeAt_51, sX1_isWholeAt_52, sX1_isWholeAt_55, sX1_isWholeAt_56, sX1_isWholeAt_57, sX1_isWholeAt_58, sX1_isWholeAt_61, sX1_isWholeAt_62, sX1_isWholeAt_63, sX1_isWholeAt_64, sX1_isWholeAt_67, sX1_isWholeAt_70, sX1_isWholeAt_71, sX1_isWholeAt_74, sX1_isWholeAt_75, sX1_isWholeAt_75t, a.1, a.2.1, gf_0, gf_1, gf_2, gf_3, gf_4, gf_5, pf_0, pf_1, pf_2, pf_3, pf_4, pf_5, List.set_cons_zero, List.set_cons_succ, bd_v, bi_v, Option.toList, List.cons_append, List.nil_append, List.length_cons, List.length_nil, Nat.reduceAdd, Nat.reduceLeDiff, ck_in, nI_add, nI_1, if_false, if_true, c1', hg, q1, q2]
  · rw [if_neg (show ¬ whl J jl p = true by unfold whl; rw [decide_eq_true_eq]; exact fun q => c1 q.1)]
    have c1' := mt e1.mp c1
    simp only [sX1_isWholeAt_0, sX1_isWholeAt_1, sX1_isWholeAt_2, sX1_isWholeAt_5, sX1_isWholeAt_8, sX1_isWholeAt_9, sX1_isWholeAt_9t, sX1_isWholeAt_10, sX1_isWholeAt_11, sX1_isWholeAt_14, sX1_isWholeAt_15, sX1_isWholeAt_18, sX1_isWholeAt_19, sX1_isWholeAt_20, sX1_isWholeAt_21, sX1_isWholeAt_24, sX1_isWholeAt_25, sX1_isWholeAt_27, sX1_isWholeAt_30, sX1_isWholeAt_31, sX1_isWholeAt_32, sX1_isWholeAt_33, sX1_isWholeAt_36, sX1_isWholeAt_37, sX1_isWholeAt_38, sX1_isWholeAt_41, sX1_isWholeAt_44, sX1_isWholeAt_45, sX1_isWholeAt_45t, sX1_isWholeAt_46, sX1_isWholeAt_47, sX1_isWholeAt_50, sX1_isWholeAt_51, sX1_isWholeAt_52, sX1_isWholeAt_55, sX1_isWholeAt_56, sX1_isWholeAt_57, sX1_isWholeAt_58, sX1_isWholeAt_61, sX1_isWholeAt_62, sX1_isWholeAt_63, sX1_isWholeAt_64, sX1_isWholeAt_67, sX1_isWholeAt_70, sX1_isWholeAt_71, sX1_isWholeAt_74, sX1_isWholeAt_75, sX1_isWholeAt_75t, a.1, a.2.1, gf_0, gf_1, gf_2, gf_3, gf_4, gf_5, pf_0, pf_1, pf_2, pf_3, pf_4, pf_5, List.set_cons_zero, List.set_cons_succ, bd_v, bi_v, Option.toList, List.cons_append, List.nil_append, List.length_cons, List.length_nil, Nat.reduceAdd, Nat.reduceLeDiff, ck_in, nI_add, nI_1, if_false, if_true, c1']
end
theorem Jr_init {h : Nat → Option va_E} {b k t : Nat} (hr : h b = some (obj 1 [.null, .int 0])) : ∃ h', cl 26 [.ref b] (h, b + 1, k, t) = some (.inl none, (h', b + 3, k + 2, t + 601)) ∧ JrL h' b (fun _ => 0) 0 ∧ fre [b, b + 1, b + 2] h h' := by
  have c := Row_init (h := am_up h (b + 1) (obj 4 [.null])) (q := b + 1) (k := k + 1) (s := t + 1) (m := 600) (up_s _ _ _) (by omega) (by omega)
  rw [show nI 600 = (600 : Int32) from rfl] at c
  refine ⟨am_up (am_up (am_up (am_up h (b + 1) (obj 4 [.null])) (b + 1 + 1) (ints 600 (fun _ => 0))) (b + 1) (obj 4 [.ref (b + 1 + 1)])) b (obj 1 [.ref (b + 1), .int 0]), ?_, ⟨up_s _ _ _, ?_, ?_⟩, ?_⟩
  · rw [eX1_init]
    simp only [sX1_init_0, sX1_init_1, sX1_init_4, sX1_init_5, sX1_init_8, sX1_init_8i, sX1_init_9, sX1_init_12, sX1_init_15, sX1_init_18, sX1_init_19, sX1_init_20, sX1_init_23, bd_v, bi_v, Option.toList, List.cons_append, List.nil_append, List.length_cons, List.length_nil, Nat.reduceAdd, Nat.reduceLeDiff, ck_in, nI_add, nI_1, if_false, if_true]
    rw [c]
    simp only [sX1_init_0, sX1_init_1, sX1_init_4, sX1_init_5, sX1_init_8, sX1_init_8i, sX1_init_9, sX1_init_12, sX1_init_15, sX1_init_18, sX1_init_19, sX1_init_20, sX1_init_23, bd_v, bi_v, Option.toList, List.cons_append, List.nil_append, List.length_cons, List.length_nil, Nat.reduceAdd, Nat.reduceLeDiff, ck_in, nI_add, nI_1, if_false, if_true, up_n (show b ≠ b + 1 by omega), up_n (show b ≠ b + 1 + 1 by omega), hr, gf_0, gf_1, gf_2, gf_3, gf_4, gf_5, pf_0, pf_1, pf_2, pf_3, pf_4, pf_5, List.set_cons_zero, List.set_cons_succ, up_s, up_up]
  · rw [up_n (by omega)]; exact up_s _ _ _
  · rw [up_n (by omega), up_n (by omega)]; exact up_s _ _ _
  · exact (((fre.u (by simp)).t (fre.u (by simp))).t (fre.u (by simp))).t (fre.u (by simp))
