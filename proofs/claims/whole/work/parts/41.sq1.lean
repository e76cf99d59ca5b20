/-! accept, pure; splitsFor -/
def Sh.put (S : Sh) (p : Nat) (rs : List Rc) : Sh := (S.dep, updR S.rec p rs, S.tab, S.D, S.used, S.acts + 1)
def renum (nm : List Int32) (v : Int32) (rs : List Rc) : List Rc := rs.map (fun x => if x.1 = nm then (nm, v) else x)
def acc (n : Nat) (nm : List Int32) (v : Int32) : Nat → Sh → Option Sh
  | 0, _ => none
  | m + 1, S => if 2 + tsz (S.rec (S.at (hsh nm))) + (nm.length + 5) ≤ 60 then some (S.put (S.at (hsh nm)) (S.rec (S.at (hsh nm)) ++ [(nm, v)])) else if S.dep (S.at (hsh nm)) < 5 ∧ S.used < n then acc n nm v m (S.split (S.at (hsh nm))) else none
def accept (n : Nat) (nm : List Int32) (v : Int32) (S : Sh) : Option Sh := if nm ∈ (S.rec (S.at (hsh nm))).map Prod.fst then some (S.put (S.at (hsh nm)) (renum nm v (S.rec (S.at (hsh nm))))) else acc n nm v 6 S
def sfr (n u d sz : Nat) (hh : Int32) (rs : List Rc) : Nat → Nat → Option Nat
  | 0, _ => none
  | m + 1, s => if 5 < d + s then none else if n < u + s then none else if 2 + tsz (rs.filter (kin hh (d + s))) + sz ≤ 60 then some s else sfr n u d sz hh rs m (s + 1)
theorem updR_s {f : Nat → List Rc} {k : Nat} {x : List Rc} : updR f k x k = x := by unfold updR; rw [if_pos rfl]
theorem updR_n {f : Nat → List Rc} {k j : Nat} {x : List Rc} (h : j ≠ k) : updR f k x j = f j := by unfold updR; rw [if_neg h]
theorem put_at (S : Sh) (p : Nat) (rs : List Rc) (hh : Int32) : (S.put p rs).at hh = S.at hh := rfl
theorem WF.put {n : Nat} {S : Sh} (w : WF n S) {p : Nat} {rs : List Rc} (hp : p < S.used) (h1 : 2 + tsz rs ≤ 60) (h2 : ∀ x ∈ rs, S.at (hsh x.1) = p) (h3 : (rs.map Prod.fst).Nodup) (h4 : ∀ x ∈ rs, 1 ≤ x.1.length ∧ x.1.length ≤ 12) : WF n (S.put p rs) := by
  obtain ⟨a1, a2, a3, a4, a5, a6, a7, a8, a9, a10, a11, a12⟩ := w
  refine ⟨a1, a2, a3, a4, a5, fun q => ?_, a7, fun q x hx => ?_, a9, fun q => ?_, fun q x hx => ?_, fun q hq => ?_⟩
  · show 2 + tsz (updR S.rec p rs q) ≤ 60
    by_cases e : q = p
    · subst e; rw [updR_s]; exact h1
    · rw [updR_n e]; exact a6 q
  · have hx : x ∈ updR S.rec p rs q := hx
    by_cases e : q = p
    · subst e; rw [updR_s] at hx; exact h2 x hx
    · rw [updR_n e] at hx; exact a8 q x hx
  · show ((updR S.rec p rs q).map Prod.fst).Nodup
    by_cases e : q = p
    · subst e; rw [updR_s]; exact h3
    · rw [updR_n e]; exact a10 q
  · have hx : x ∈ updR S.rec p rs q := hx
    by_cases e : q = p
    · subst e; rw [updR_s] at hx; exact h4 x hx
    · rw [updR_n e] at hx; exact a11 q x hx
  · have hq : S.used ≤ q := hq
    refine ⟨?_, (a12 q hq).2⟩
    show updR S.rec p rs q = []
    rw [updR_n (by omega)]
    exact (a12 q hq).1
theorem at_kin {n : Nat} {S : Sh} (w : WF n S) (hh : Int32) : S.rec (S.at hh) = (S.rec (S.at hh)).filter (kin hh (S.dep (S.at hh))) := by
  symm
  rw [List.filter_eq_self]
  intro x hx
  have h5 : S.D ≤ 5 := w.1
  have h7 : S.dep (S.at hh) ≤ S.D := w.2.2.2.2.2.2.1 _
  have h8 : S.at (hsh x.1) = S.at hh := w.2.2.2.2.2.2.2.1 _ x hx
  rw [kin_iff (by omega)]
  have h9 := w.2.2.2.2.2.2.2.2.1 (un (hsh x.1) % 2 ^ S.D) (un hh % 2 ^ S.D) (Nat.mod_lt _ (Nat.two_pow_pos _)) (Nat.mod_lt _ (Nat.two_pow_pos _)) h8
  have e : S.tab (un (hsh x.1) % 2 ^ S.D) = S.at hh := h8
  rw [e, mod_dep h7, mod_dep h7] at h9
  exact h9
theorem split_kin2 {n : Nat} {S : Sh} (w : WF n S) (hh : Int32) (hu : S.used < n) {d s : Nat} {rs : List Rc} (hd : S.dep (S.at hh) = d + s) (hd5 : S.dep (S.at hh) < 5) (hr : S.rec (S.at hh) = rs.filter (kin hh (d + s))) :
    (S.split (S.at hh)).dep ((S.split (S.at hh)).at hh) = d + (s + 1) ∧ (S.split (S.at hh)).rec ((S.split (S.at hh)).at hh) = rs.filter (kin hh (d + (s + 1))) := by
  obtain ⟨g1, g2⟩ := split_kin w hh hu hd5
  refine ⟨by rw [g1, hd]; omega, ?_⟩
  rw [g2, hr, List.filter_filter, hd]
  congr 1
  funext x
  rw [show d + (s + 1) = d + s + 1 by omega, kin_succ (by omega), Bool.and_comm]
theorem acc_none {n : Nat} {nm : List Int32} {v : Int32} {u d : Nat} {rs : List Rc} : ∀ (m s : Nat) (S : Sh), WF n S → S.dep (S.at (hsh nm)) = d + s → S.rec (S.at (hsh nm)) = rs.filter (kin (hsh nm) (d + s)) → S.used = u + s → sfr n u d (nm.length + 5) (hsh nm) rs m s = none → acc n nm v m S = none := by
  intro m
  induction m with
  | zero => intro s S w h1 h2 h3 h4; rfl
  | succ m ih =>
    intro s S w h1 h2 h3 h4
    have h5 : S.D ≤ 5 := w.1
    have h6 : S.used ≤ n := w.2.1
    have h7 : S.dep (S.at (hsh nm)) ≤ S.D := w.2.2.2.2.2.2.1 _
    rw [sfr, if_neg (by omega), if_neg (by omega)] at h4
    rw [acc]
    by_cases c1 : 2 + tsz (rs.filter (kin (hsh nm) (d + s))) + (nm.length + 5) ≤ 60
    · rw [if_pos c1] at h4; cases h4
    · rw [if_neg c1] at h4
      rw [if_neg (by rw [h2]; exact c1)]
      by_cases c2 : S.dep (S.at (hsh nm)) < 5 ∧ S.used < n
      · rw [if_pos c2]
        obtain ⟨g1, g2⟩ := split_kin2 w (hsh nm) c2.2 h1 c2.1 h2
        exact ih (s + 1) _ (w.split (S.at_lt w _) c2.2 c2.1) g1 g2 (by show S.used + 1 = _; omega) h4
      · rw [if_neg c2]
theorem acc_WF {n : Nat} {nm : List Int32} {v : Int32} (hl : 1 ≤ nm.length ∧ nm.length ≤ 12) : ∀ (m : Nat) (S S' : Sh), WF n S → nm ∉ (S.rec (S.at (hsh nm))).map Prod.fst → acc n nm v m S = some S' → WF n S' := by
  intro m
  induction m with
  | zero => intro S S' w h1 h2; cases h2
  | succ m ih =>
    intro S S' w h1 h2
    rw [acc] at h2
    by_cases c1 : 2 + tsz (S.rec (S.at (hsh nm))) + (nm.length + 5) ≤ 60
    · rw [if_pos c1] at h2
      cases h2
      refine w.put (S.at_lt w _) (by rw [tsz_app, tsz_one]; unfold rsz; dsimp only; omega) (fun x hx => ?_) ?_ (fun x hx => ?_)
      · rcases List.mem_append.mp hx with hx | hx
        · exact w.2.2.2.2.2.2.2.1 _ x hx
        · rw [List.mem_singleton] at hx; rw [hx]
      · rw [List.map_append, List.nodup_append]
        refine ⟨w.2.2.2.2.2.2.2.2.2.1 _, by simp, fun a ha b hb => ?_⟩
        simp at hb
        subst hb
        intro e
        subst e
        exact h1 ha
      · rcases List.mem_append.mp hx with hx | hx
        · exact w.2.2.2.2.2.2.2.2.2.2.1 _ x hx
        · rw [List.mem_singleton] at hx; rw [hx]; exact hl
    · rw [if_neg c1] at h2
      by_cases c2 : S.dep (S.at (hsh nm)) < 5 ∧ S.used < n
      · rw [if_pos c2] at h2
        refine ih _ S' (w.split (S.at_lt w _) c2.2 c2.1) ?_ h2
        rw [(split_kin w (hsh nm) c2.2 c2.1).2]
        intro hm
        exact h1 ((List.filter_sublist.map _).subset hm)
      · rw [if_neg c2] at h2; cases h2
theorem renum_fst (nm : List Int32) (v : Int32) (rs : List Rc) : (renum nm v rs).map Prod.fst = rs.map Prod.fst := by
  unfold renum
  rw [List.map_map]
  apply List.map_congr_left
  intro x hx
  show (if x.1 = nm then (nm, v) else x).1 = x.1
  by_cases e : x.1 = nm
  · rw [if_pos e, e]
  · rw [if_neg e]
theorem renum_tsz (nm : List Int32) (v : Int32) (rs : List Rc) : tsz (renum nm v rs) = tsz rs := by
  induction rs with
  | nil => rfl
  | cons x t ih =>
    show rsz (if x.1 = nm then (nm, v) else x) + tsz (renum nm v t) = rsz x + tsz t
    rw [ih]
    by_cases e : x.1 = nm
    · rw [if_pos e]; unfold rsz; rw [e]
    · rw [if_neg e]
theorem renum_no {nm : List Int32} {v : Int32} {rs : List Rc} (h : nm ∉ rs.map Prod.fst) : renum nm v rs = rs := by
  induction rs with
  | nil => rfl
  | cons x t ih =>
    rw [List.map_cons, List.mem_cons, not_or] at h
    show (if x.1 = nm then (nm, v) else x) :: renum nm v t = _
    rw [if_neg (fun z => h.1 z.symm), ih h.2]
theorem renum_at {nm : List Int32} {v w : Int32} {s1 s2 : List Rc} (h1 : nm ∉ s1.map Prod.fst) (h2 : nm ∉ s2.map Prod.fst) : renum nm v (s1 ++ (nm, w) :: s2) = s1 ++ (nm, v) :: s2 := by
  have e : renum nm v (s1 ++ (nm, w) :: s2) = renum nm v s1 ++ (if nm = nm then (nm, v) else (nm, w)) :: renum nm v s2 := by unfold renum; rw [List.map_append, List.map_cons]
  rw [e, renum_no h1, renum_no h2, if_pos rfl]
theorem mem_renum {nm : List Int32} {v : Int32} {rs : List Rc} {x : Rc} (h : x ∈ renum nm v rs) : ∃ y ∈ rs, x.1 = y.1 := by
  have : x.1 ∈ (renum nm v rs).map Prod.fst := List.mem_map_of_mem h
  rw [renum_fst] at this
  obtain ⟨y, h1, h2⟩ := List.mem_map.mp this
  exact ⟨y, h1, h2.symm⟩
theorem accept_WF {n : Nat} {nm : List Int32} {v : Int32} {S S' : Sh} (hl : 1 ≤ nm.length ∧ nm.length ≤ 12) (w : WF n S) (h : accept n nm v S = some S') : WF n S' := by
  unfold accept at h
  by_cases c : nm ∈ (S.rec (S.at (hsh nm))).map Prod.fst
  · rw [if_pos c] at h
    cases h
    refine w.put (S.at_lt w _) (by rw [renum_tsz]; exact w.2.2.2.2.2.1 _) (fun x hx => ?_) (by rw [renum_fst]; exact w.2.2.2.2.2.2.2.2.2.1 _) (fun x hx => ?_)
    · obtain ⟨y, h1, h2⟩ := mem_renum hx
      rw [h2]
      exact w.2.2.2.2.2.2.2.1 _ y h1
    · obtain ⟨y, h1, h2⟩ := mem_renum hx
      rw [h2]
      exact w.2.2.2.2.2.2.2.2.2.2.1 _ y h1
  · rw [if_neg c] at h
    exact acc_WF hl 6 S S' w c h
def oI : Option Nat → Int32
  | none => -1
  | some s => nI s
section
variable {h : Nat → Option va_E} {z : Nat × Nat × Nat} {s n : Nat} {F : Nat → Nat → Int32} {E : Nat → Nat} {tf : Nat → Int32} {D used acts : Nat}
theorem splitsFor_l (a : ShL h s n F E tf D used acts) (hn : n ≤ 40) (hu : used ≤ 40) {b d sz : Nat} {rs : List Rc} {t : Nat → Int32} (hp : PgL h b (pgG d rs t) (2 + tsz rs)) (hs : 2 + tsz rs ≤ 60) (hd : d ≤ 5) (hsz : sz ≤ 20) (hh : Int32) : ∀ (m k : Nat) (w0 : Value), k ≤ 6 → 5 < d + k + m →
    rn 64 9 [.ref s, .ref b, .int hh, .int (nI sz), .int (nI d), .int (nI k), w0] [] (h, z) = some (.inl (some (.int (oI (sfr n used d sz hh rs m k)))), (h, z)) := by
  obtain ⟨c1, ⟨g, c2, c3⟩, -⟩ := id a
  intro m
  induction m with
  | zero =>
    intro k w0 hk6 hk
    have h1 : (5 : Int32) < nI (d + k) := by rw [show (5 : Int32) = nI 5 from rfl, nI_ltI (by omega) (by omega)]; omega
    rw [sX5_splitsFor_9]
    simp only [sX5_splitsFor_0, sX5_splitsFor_1, sX5_splitsFor_4, sX5_splitsFor_6, sX5_splitsFor_7, sX5_splitsFor_11, sX5_splitsFor_13, sX5_splitsFor_14, sX5_splitsFor_15, sX5_splitsFor_18, sX5_splitsFor_19, sX5_splitsFor_22, sX5_splitsFor_24, sX5_splitsFor_25, sX5_splitsFor_26, sX5_splitsFor_29, sX5_splitsFor_30, sX5_splitsFor_33, sX5_splitsFor_34, sX5_splitsFor_35, sX5_splitsFor_36, sX5_splitsFor_37, sX5_splitsFor_39, sX5_splitsFor_41, sX5_splitsFor_42, sX5_splitsFor_45, sX5_splitsFor_47, sX5_splitsFor_48, sX5_splitsFor_50, sX5_splitsFor_51, sX5_splitsFor_52, sX5_splitsFor_53, sX5_splitsFor_55, sX5_splitsFor_58, sX5_splitsFor_60, sX5_splitsFor_61, sX5_splitsFor_64, sX5_splitsFor_67, sX5_splitsFor_68, bd_v, bi_v, Option.toList, List.cons_append, List.nil_append, List.length_cons, List.length_nil, Nat.reduceAdd, Nat.reduceLeDiff, ck_in, nI_add, nI_1, if_false, if_true, h1]
    rfl
  | succ m ih =>
    intro k w0 hk6 hk
    rw [sX5_splitsFor_9, sfr]
    by_cases q1 : 5 < d + k
    · have h1 : (5 : Int32) < nI (d + k) := by rw [show (5 : Int32) = nI 5 from rfl, nI_ltI (by omega) (by omega)]; omega
      rw [if_pos q1]
      simp only [sX5_splitsFor_0, sX5_splitsFor_1, sX5_splitsFor_4, sX5_splitsFor_6, sX5_splitsFor_7, sX5_splitsFor_11, sX5_splitsFor_13, sX5_splitsFor_14, sX5_splitsFor_15, sX5_splitsFor_18, sX5_splitsFor_19, sX5_splitsFor_22, sX5_splitsFor_24, sX5_splitsFor_25, sX5_splitsFor_26, sX5_splitsFor_29, sX5_splitsFor_30, sX5_splitsFor_33, sX5_splitsFor_34, sX5_splitsFor_35, sX5_splitsFor_36, sX5_splitsFor_37, sX5_splitsFor_39, sX5_splitsFor_41, sX5_splitsFor_42, sX5_splitsFor_45, sX5_splitsFor_47, sX5_splitsFor_48, sX5_splitsFor_50, sX5_splitsFor_51, sX5_splitsFor_52, sX5_splitsFor_53, sX5_splitsFor_55, sX5_splitsFor_58, sX5_splitsFor_60, sX5_splitsFor_61, sX5_splitsFor_64, sX5_splitsFor_67, sX5_splitsFor_68, bd_v, bi_v, Option.toList, List.cons_append, List.nil_append, List.length_cons, List.length_nil, Nat.reduceAdd, Nat.reduceLeDiff, ck_in, nI_add, nI_1, if_false, if_true, h1]
      rfl
    · have h1 : ¬ (5 : Int32) < nI (d + k) := by rw [show (5 : Int32) = nI 5 from rfl, nI_ltI (by omega) (by omega)]; omega
      rw [if_neg q1]
      by_cases q2 : n < used + k
      · have h2 : ¬ nI (used + k) ≤ nI n := by rw [nI_leI (by omega) (by omega)]; omega
        rw [if_pos q2]
        simp only [sX5_splitsFor_0, sX5_splitsFor_1, sX5_splitsFor_4, sX5_splitsFor_6, sX5_splitsFor_7, sX5_splitsFor_11, sX5_splitsFor_13, sX5_splitsFor_14, sX5_splitsFor_15, sX5_splitsFor_18, sX5_splitsFor_19, sX5_splitsFor_22, sX5_splitsFor_24, sX5_splitsFor_25, sX5_splitsFor_26, sX5_splitsFor_29, sX5_splitsFor_30, sX5_splitsFor_33, sX5_splitsFor_34, sX5_splitsFor_35, sX5_splitsFor_36, sX5_splitsFor_37, sX5_splitsFor_39, sX5_splitsFor_41, sX5_splitsFor_42, sX5_splitsFor_45, sX5_splitsFor_47, sX5_splitsFor_48, sX5_splitsFor_50, sX5_splitsFor_51, sX5_splitsFor_52, sX5_splitsFor_53, sX5_splitsFor_55, sX5_splitsFor_58, sX5_splitsFor_60, sX5_splitsFor_61, sX5_splitsFor_64, sX5_splitsFor_67, sX5_splitsFor_68, c1, c2, gf_0, gf_1, gf_2, gf_3, gf_4, gf_5, pf_0, pf_1, pf_2, pf_3, pf_4, pf_5, List.set_cons_zero, List.set_cons_succ, lnr_in, bd_v, bi_v, Option.toList, List.cons_append, List.nil_append, List.length_cons, List.length_nil, Nat.reduceAdd, Nat.reduceLeDiff, ck_in, nI_add, nI_1, if_false, if_true, h1, h2]
        rfl
      · have h2 : nI (used + k) ≤ nI n := by rw [nI_leI (by omega) (by omega)]; omega
        rw [if_neg q2]
        have hb := Page_bytesOfKin (z := z) hp hs hh (d + k)
        have hle := tsz_filter (kin hh (d + k)) rs
        have e2 : (2 : Int32) + nI (tsz (rs.filter (kin hh (d + k)))) + nI sz = nI (2 + tsz (rs.filter (kin hh (d + k))) + sz) := by rw [show (2 : Int32) = nI 2 from rfl, nI_add, nI_add]
        by_cases q3 : 2 + tsz (rs.filter (kin hh (d + k))) + sz ≤ 60
        · have h3 : ¬ (60 : Int32) < nI (2 + tsz (rs.filter (kin hh (d + k))) + sz) := by rw [show (60 : Int32) = nI 60 from rfl, nI_ltI (by omega) (by omega)]; omega
          rw [if_pos q3]
          simp only [sX5_splitsFor_0, sX5_splitsFor_1, sX5_splitsFor_4, sX5_splitsFor_6, sX5_splitsFor_7, sX5_splitsFor_11, sX5_splitsFor_13, sX5_splitsFor_14, sX5_splitsFor_15, sX5_splitsFor_18, sX5_splitsFor_19, sX5_splitsFor_22, sX5_splitsFor_24, sX5_splitsFor_25, sX5_splitsFor_26, sX5_splitsFor_29, sX5_splitsFor_30, sX5_splitsFor_33, sX5_splitsFor_34, sX5_splitsFor_35, sX5_splitsFor_36, sX5_splitsFor_37, sX5_splitsFor_39, sX5_splitsFor_41, sX5_splitsFor_42, sX5_splitsFor_45, sX5_splitsFor_47, sX5_splitsFor_48, sX5_splitsFor_50, sX5_splitsFor_51, sX5_splitsFor_52, sX5_splitsFor_53, sX5_splitsFor_55, sX5_splitsFor_58, sX5_splitsFor_60, sX5_splitsFor_61, sX5_splitsFor_64, sX5_splitsFor_67, sX5_splitsFor_68, c1, c2, gf_0, gf_1, gf_2, gf_3, gf_4, gf_5, pf_0, pf_1, pf_2, pf_3, pf_4, pf_5, List.set_cons_zero, List.set_cons_succ, lnr_in, bd_v, bi_v, Option.toList, List.cons_append, List.nil_append, List.length_cons, List.length_nil, Nat.reduceAdd, Nat.reduceLeDiff, ck_in, nI_add, nI_1, if_false, if_true, h1, h2, hp.1, hb, e2, h3]
          rfl
        · have h3 : (60 : Int32) < nI (2 + tsz (rs.filter (kin hh (d + k))) + sz) := by rw [show (60 : Int32) = nI 60 from rfl, nI_ltI (by omega) (by omega)]; omega
          rw [if_neg q3]
          simp only [sX5_splitsFor_0, sX5_splitsFor_1, sX5_splitsFor_4, sX5_splitsFor_6, sX5_splitsFor_7, sX5_splitsFor_11, sX5_splitsFor_13, sX5_splitsFor_14, sX5_splitsFor_15, sX5_splitsFor_18, sX5_splitsFor_19, sX5_splitsFor_22, sX5_splitsFor_24, sX5_splitsFor_25, sX5_splitsFor_26, sX5_splitsFor_29, sX5_splitsFor_30, sX5_splitsFor_33, sX5_splitsFor_34, sX5_splitsFor_35, sX5_splitsFor_36, sX5_splitsFor_37, sX5_splitsFor_39, sX5_splitsFor_41, sX5_splitsFor_42, sX5_splitsFor_45, sX5_splitsFor_47, sX5_splitsFor_48, sX5_splitsFor_50, sX5_splitsFor_51, sX5_splitsFor_52, sX5_splitsFor_53, sX5_splitsFor_55, sX5_splitsFor_58, sX5_splitsFor_60, sX5_splitsFor_61, sX5_splitsFor_64, sX5_splitsFor_67, sX5_splitsFor_68, c1, c2, gf_0, gf_1, gf_2, gf_3, gf_4, gf_5, pf_0, pf_1, pf_2, pf_3, pf_4, pf_5, List.set_cons_zero, List.set_cons_succ, lnr_in, bd_v, bi_v, Option.toList, List.cons_append, List.nil_append, List.length_cons, List.length_nil, Nat.reduceAdd, Nat.reduceLeDiff, ck_in, nI_add, nI_1, if_false, if_true, h1, h2, hp.1, hb, e2, h3]
          exact ih (k + 1) _ (by omega) (by omega)
theorem Shelf_splitsFor (a : ShL h s n F E tf D used acts) (hn : n ≤ 40) (hu : used ≤ 40) {b d sz : Nat} {rs : List Rc} {t : Nat → Int32} (hp : PgL h b (pgG d rs t) (2 + tsz rs)) (hs : 2 + tsz rs ≤ 60) (hd : d ≤ 5) (hsz : sz ≤ 20) (hh : Int32) :
    cl 64 [.ref s, .ref b, .int hh, .int (nI sz)] (h, z) = some (.inl (some (.int (oI (sfr n used d sz hh rs 6 0)))), (h, z)) := by
  rw [eX5_splitsFor]
  simp only [sX5_splitsFor_0, sX5_splitsFor_1, sX5_splitsFor_4, sX5_splitsFor_6, sX5_splitsFor_7, bd_v, bi_v, Option.toList, List.cons_append, List.nil_append, List.length_cons, List.length_nil, Nat.reduceAdd, Nat.reduceLeDiff, ck_in, nI_add, nI_1, if_false, if_true, hp.1, Page_depth hp, pg_0]
  exact splitsFor_l a hn hu hp hs hd hsz hh 6 0 _ (by omega) (by omega)
end
