/-! records and pages, pure -/
abbrev Rc : Type := List Int32 × Int32
def rsz (x : Rc) : Nat := x.1.length + 5
def tsz : List Rc → Nat
  | [] => 0
  | x :: t => rsz x + tsz t
def enc (x : Rc) : List Int32 := nI x.1.length :: (x.1 ++ [byt x.2 0, byt x.2 1, byt x.2 2, byt x.2 3])
def encs : List Rc → List Int32
  | [] => []
  | x :: t => enc x ++ encs t
def nmof (l : Nat) (f : Nat → Int32) : List Int32 := (List.range l).map f
def hsh (nm : List Int32) : Int32 := sm mix (fun i => nm.getD i 0) 0 nm.length 0
/-- the bytes 0 .. 59 of a page, and what stands behind -/
def pgG (d : Nat) (rs : List Rc) (t : Nat → Int32) : Nat → Int32 := fun j => if j < 60 then (if j = 0 then nI d else if j = 1 then nI rs.length else (encs rs).getD (j - 2) 0) else t j
theorem gD_l (l l' : List Int32) (d : Int32) (n : Nat) (h : n < l.length) : (l ++ l').getD n d = l.getD n d := by
  rw [List.getD_eq_getElem?_getD, List.getD_eq_getElem?_getD, List.getElem?_append_left h]
theorem gD_r (l l' : List Int32) (d : Int32) (n : Nat) (h : l.length ≤ n) : (l ++ l').getD n d = l'.getD (n - l.length) d := by
  rw [List.getD_eq_getElem?_getD, List.getD_eq_getElem?_getD, List.getElem?_append_right h]
theorem gD_d {l : List Int32} (n : Nat) (d : Int32) (h : l.length ≤ n) : l.getD n d = d := by
  rw [List.getD_eq_getElem?_getD, List.getElem?_eq_none h]
  rfl
theorem enc_len (x : Rc) : (enc x).length = rsz x := by simp [enc, rsz]
theorem encs_len : ∀ rs : List Rc, (encs rs).length = tsz rs
  | [] => rfl
  | x :: t => by rw [encs, List.length_append, enc_len, encs_len t, tsz]
theorem encs_app (a b : List Rc) : encs (a ++ b) = encs a ++ encs b := by
  induction a with
  | nil => rfl
  | cons x t ih => rw [List.cons_append, encs, encs, ih, List.append_assoc]
theorem tsz_app (a b : List Rc) : tsz (a ++ b) = tsz a + tsz b := by
  induction a with
  | nil => simp [tsz]
  | cons x t ih => rw [List.cons_append, tsz, tsz, ih]; omega
theorem tsz_one (x : Rc) : tsz [x] = rsz x := by simp [tsz]
theorem encs_one (x : Rc) : encs [x] = enc x := by simp [encs]
theorem sm_congr2 {mx : Int32 → Int32 → Int32} {g g' : Nat → Int32} : ∀ (m p q : Nat) (s : Int32), (∀ i, i < m → g (p + i) = g' (q + i)) → sm mx g p m s = sm mx g' q m s := by
  intro m
  induction m with
  | zero => intro p q s h; rfl
  | succ m ih =>
    intro p q s h
    have h0 := h 0 (by omega)
    rw [Nat.add_zero, Nat.add_zero] at h0
    rw [sm, sm, h0]
    exact ih (p + 1) (q + 1) _ (fun i hi => by rw [show p + 1 + i = p + (i + 1) by omega, show q + 1 + i = q + (i + 1) by omega]; exact h (i + 1) (by omega))
theorem nmof_len (l : Nat) (f : Nat → Int32) : (nmof l f).length = l := by simp [nmof]
theorem nmof_get {l : Nat} {f : Nat → Int32} {i : Nat} (h : i < l) : (nmof l f).getD i 0 = f i := by
  simp [nmof, List.getD_eq_getElem?_getD, h]
theorem nmof_eq {l : Nat} {f : Nat → Int32} {nm : List Int32} (h1 : nm.length = l) (h2 : ∀ i, i < l → nm.getD i 0 = f i) : nm = nmof l f := by
  apply List.ext_getElem (by rw [h1, nmof_len])
  intro i h3 h4
  have := h2 i (by omega)
  rw [List.getD_eq_getElem?_getD, List.getElem?_eq_getElem h3] at this
  simp [nmof]
  exact this
theorem hsh_nmof (l : Nat) (f : Nat → Int32) : hsh (nmof l f) = sm mix f 0 l 0 := by
  unfold hsh
  rw [nmof_len]
  exact sm_congr l 0 0 (fun i hi => by rw [Nat.zero_add]; exact nmof_get hi)
/-- a record of a page, by place -/
theorem encs_at {pre suf : List Rc} {x : Rc} {i : Nat} (hi : i < rsz x) : (encs (pre ++ x :: suf)).getD (tsz pre + i) 0 = (enc x).getD i 0 := by
  rw [encs_app, gD_r _ _ _ _ (by rw [encs_len]; omega), encs_len, Nat.add_sub_cancel_left, encs, gD_l _ _ _ _ (by rw [enc_len]; exact hi)]
theorem pg_at {d : Nat} {pre suf : List Rc} {x : Rc} {t : Nat → Int32} {i : Nat} (hi : i < rsz x) (hs : 2 + tsz (pre ++ x :: suf) ≤ 60) : pgG d (pre ++ x :: suf) t (2 + tsz pre + i) = (enc x).getD i 0 := by
  rw [tsz_app, tsz] at hs
  unfold pgG
  rw [if_pos (by omega), if_neg (by omega), if_neg (by omega), show 2 + tsz pre + i - 2 = tsz pre + i by omega, encs_at hi]
theorem enc_0 (x : Rc) : (enc x).getD 0 0 = nI x.1.length := rfl
theorem enc_n {x : Rc} {i : Nat} (h : i < x.1.length) : (enc x).getD (1 + i) 0 = x.1.getD i 0 := by
  rw [enc, Nat.add_comm, List.getD_cons_succ, gD_l _ _ _ _ h]
theorem enc_b {x : Rc} {k : Nat} (h : k < 4) : (enc x).getD (1 + x.1.length + k) 0 = byt x.2 k := by
  rw [enc, show 1 + x.1.length + k = (x.1.length + k) + 1 by omega, List.getD_cons_succ, gD_r _ _ _ _ (by omega), Nat.add_sub_cancel_left]
  match k, h with
  | 0, _ => rfl
  | 1, _ => rfl
  | 2, _ => rfl
  | 3, _ => rfl
/-- a record more, laid behind the others -/
theorem pg_more {d : Nat} {rs : List Rc} {x : Rc} {t F : Nat → Int32} (hs : 2 + tsz rs + rsz x ≤ 60) (h1 : ∀ j, (j < 2 + tsz rs ∨ 2 + tsz rs + rsz x ≤ j) → F j = pgG d rs t j) (h2 : ∀ i, i < rsz x → F (2 + tsz rs + i) = (enc x).getD i 0) : upd F 1 (nI (rs.length + 1)) = pgG d (rs ++ [x]) t := by
  funext j
  unfold upd
  by_cases hj1 : j = 1
  · rw [if_pos hj1]
    subst hj1
    simp [pgG]
  · rw [if_neg hj1]
    by_cases hj : j < 2 + tsz rs
    · rw [h1 j (Or.inl hj)]
      unfold pgG
      by_cases h60 : j < 60
      · rw [if_pos h60, if_pos h60]
        by_cases hj0 : j = 0
        · rw [if_pos hj0, if_pos hj0]
        · rw [if_neg hj0, if_neg hj0, if_neg hj1, if_neg hj1, encs_app, gD_l _ _ _ _ (by rw [encs_len]; omega)]
      · rw [if_neg h60, if_neg h60]
    · by_cases hj2 : j < 2 + tsz rs + rsz x
      · have h3 := h2 (j - (2 + tsz rs)) (by omega)
        rw [show 2 + tsz rs + (j - (2 + tsz rs)) = j by omega] at h3
        rw [h3]
        unfold pgG
        rw [if_pos (by omega), if_neg (by omega), if_neg hj1, encs_app, gD_r _ _ _ _ (by rw [encs_len]; omega), encs_len, encs_one, show j - (2 + tsz rs) = j - 2 - tsz rs by omega]
      · rw [h1 j (Or.inr (by omega))]
        unfold pgG
        by_cases h60 : j < 60
        · have hj0 : ¬ j = 0 := by omega
          rw [if_pos h60, if_pos h60, if_neg hj0, if_neg hj0, if_neg hj1, if_neg hj1, gD_d _ _ (by rw [encs_len]; omega), gD_d _ _ (by rw [encs_len, tsz_app, tsz_one]; omega)]
        · rw [if_neg h60, if_neg h60]
theorem cpy_in {g f : Nat → Int32} {q p m j : Nat} (h : p ≤ j) (h2 : j < p + m) : cpy g f q p m j = g (q + (j - p)) := by unfold cpy; rw [if_pos ⟨h, h2⟩]
theorem cpy_out {g f : Nat → Int32} {q p m j : Nat} (h : j < p ∨ p + m ≤ j) : cpy g f q p m j = f j := by unfold cpy; rw [if_neg (by omega)]
theorem putn_at {f : Nat → Int32} {p : Nat} {v : Int32} {k : Nat} (h : k < 4) : putn f p v (p + k) = byt v k := by
  unfold putn upd
  match k, h with
  | 0, _ => simp
  | 1, _ => simp
  | 2, _ => simp
  | 3, _ => simp
theorem putn_out {f : Nat → Int32} {p : Nat} {v : Int32} {j : Nat} (h : j < p ∨ p + 4 ≤ j) : putn f p v j = f j := by
  unfold putn upd
  rw [if_neg (by omega), if_neg (by omega), if_neg (by omega), if_neg (by omega)]
theorem recw_out {g f : Nat → Int32} {p l j : Nat} {v : Int32} (h : j < p ∨ p + l + 5 ≤ j) : recw g p l f v j = g j := by
  unfold recw
  rw [putn_out (by omega), cpy_out (by omega)]
  unfold upd
  rw [if_neg (by omega)]
theorem recw_at {g f : Nat → Int32} {p l i : Nat} {v : Int32} (h : i < l + 5) : recw g p l f v (p + i) = (enc (nmof l f, v)).getD i 0 := by
  by_cases h0 : i = 0
  · subst h0
    rw [enc_0, nmof_len]
    unfold recw
    rw [putn_out (by omega), cpy_out (by omega)]
    unfold upd
    rw [if_pos (Nat.add_zero p)]
  · by_cases h1 : i < 1 + l
    · unfold recw
      rw [putn_out (by omega), cpy_in (by omega) (by omega), show i = 1 + (i - 1) by omega, enc_n (by rw [nmof_len]; omega), nmof_get (by omega)]
      congr 1
      omega
    · have h2 := enc_b (x := (nmof l f, v)) (k := i - (1 + l)) (by omega)
      rw [nmof_len, show 1 + l + (i - (1 + l)) = i by omega] at h2
      rw [h2]
      unfold recw
      rw [show p + i = p + 1 + l + (i - (1 + l)) by omega, putn_at (by omega)]
theorem pg_append {d : Nat} {rs : List Rc} {l : Nat} {f t : Nat → Int32} {v : Int32} (hs : 2 + tsz rs + (l + 5) ≤ 60) : upd (recw (pgG d rs t) (2 + tsz rs) l f v) 1 (nI (rs.length + 1)) = pgG d (rs ++ [(nmof l f, v)]) t := by
  have e : rsz (nmof l f, v) = l + 5 := by unfold rsz; rw [nmof_len]
  refine pg_more (by rw [e]; exact hs) (fun j hj => recw_out (by rw [e] at hj; omega)) (fun i hi => recw_at (by rw [e] at hi; exact hi))
theorem pg_deal {d : Nat} {rs : List Rc} {x : Rc} {g t : Nat → Int32} {q : Nat} (hs : 2 + tsz rs + rsz x ≤ 60) (hg : ∀ i, i < rsz x → g (q + i) = (enc x).getD i 0) : upd (cpy g (pgG d rs t) q (2 + tsz rs) (rsz x)) 1 (nI (rs.length + 1)) = pgG d (rs ++ [x]) t :=
  pg_more hs (fun j hj => cpy_out hj) (fun i hi => by rw [cpy_in (by omega) (by omega), show 2 + tsz rs + i - (2 + tsz rs) = i by omega]; exact hg i hi)
/-- the sum's bytes -/
def sealb (f : Nat → Int32) : Nat → Int32 := putn f 60 (sm mix f 0 60 0)
def pgF (d : Nat) (rs : List Rc) : Nat → Int32 := sealb (pgG d rs (fun _ => 0))
theorem seal_pg {d : Nat} {rs : List Rc} {t : Nat → Int32} (ht : ∀ j, 64 ≤ j → t j = 0) : sealb (pgG d rs t) = pgF d rs := by
  have e : sm mix (pgG d rs t) 0 60 0 = sm mix (pgG d rs (fun _ => 0)) 0 60 0 := sm_congr 60 0 0 (fun i hi => by unfold pgG; rw [Nat.zero_add, if_pos hi, if_pos hi])
  unfold pgF sealb
  rw [e]
  funext j
  by_cases h1 : 60 ≤ j ∧ j < 64
  · rw [show j = 60 + (j - 60) by omega, putn_at (by omega), putn_at (by omega)]
  · rw [putn_out (by omega), putn_out (by omega)]
    unfold pgG
    by_cases h2 : j < 60
    · rw [if_pos h2, if_pos h2]
    · rw [if_neg h2, if_neg h2]
      exact ht j (by omega)
theorem pgF_pg (d : Nat) (rs : List Rc) : ∃ t : Nat → Int32, pgF d rs = pgG d rs t ∧ ∀ j, 64 ≤ j → t j = 0 := by
  refine ⟨fun j => if j < 60 then 0 else pgF d rs j, ?_, fun j hj => ?_⟩
  · funext j
    by_cases h : j < 60
    · unfold pgF sealb
      rw [putn_out (by omega)]
      unfold pgG
      rw [if_pos h, if_pos h]
    · show pgF d rs j = if j < 60 then _ else _
      rw [if_neg h]
      show _ = if j < 60 then _ else _
      rw [if_neg h]
  · show (if j < 60 then 0 else pgF d rs j) = 0
    rw [if_neg (by omega)]
    unfold pgF sealb
    rw [putn_out (by omega)]
    unfold pgG
    rw [if_neg (by omega)]
/-- another number in a record -/
theorem pg_renum {d : Nat} {pre suf : List Rc} {nm : List Int32} {v w : Int32} {t : Nat → Int32} (hs : 2 + tsz (pre ++ (nm, v) :: suf) ≤ 60) : putn (pgG d (pre ++ (nm, v) :: suf) t) (2 + tsz pre + 1 + nm.length) w = pgG d (pre ++ (nm, w) :: suf) t := by
  have e2 : tsz (pre ++ (nm, w) :: suf) = tsz (pre ++ (nm, v) :: suf) := by rw [tsz_app, tsz_app, tsz, tsz]; rfl
  have hs2 := hs
  rw [tsz_app, tsz] at hs2
  have e3 : rsz (nm, v) = nm.length + 5 := rfl
  funext j
  by_cases h1 : 2 + tsz pre + 1 + nm.length ≤ j ∧ j < 2 + tsz pre + 1 + nm.length + 4
  · have h3 := pg_at (d := d) (pre := pre) (suf := suf) (x := (nm, w)) (t := t) (i := 1 + nm.length + (j - (2 + tsz pre + 1 + nm.length))) (by show _ < nm.length + 5; omega) (by rw [e2]; exact hs)
    rw [enc_b (x := (nm, w)) (k := j - (2 + tsz pre + 1 + nm.length)) (by omega), show 2 + tsz pre + (1 + nm.length + (j - (2 + tsz pre + 1 + nm.length))) = j by omega] at h3
    rw [h3]
    have h4 := putn_at (f := pgG d (pre ++ (nm, v) :: suf) t) (p := 2 + tsz pre + 1 + nm.length) (v := w) (k := j - (2 + tsz pre + 1 + nm.length)) (by omega)
    rw [show 2 + tsz pre + 1 + nm.length + (j - (2 + tsz pre + 1 + nm.length)) = j by omega] at h4
    exact h4
  · rw [putn_out (by omega)]
    unfold pgG
    by_cases h60 : j < 60
    · rw [if_pos h60, if_pos h60]
      by_cases hj0 : j = 0
      · rw [if_pos hj0, if_pos hj0]
      · rw [if_neg hj0, if_neg hj0]
        by_cases hj1 : j = 1
        · rw [if_pos hj1, if_pos hj1]
          simp
        · rw [if_neg hj1, if_neg hj1, encs_app, encs_app, encs, encs]
          by_cases hj2 : j - 2 < tsz pre
          · rw [gD_l (encs pre) _ _ _ (by rw [encs_len]; exact hj2), gD_l (encs pre) _ _ _ (by rw [encs_len]; exact hj2)]
          · have hj5 : (encs pre).length ≤ j - 2 := by rw [encs_len]; omega
            rw [gD_r (encs pre) (enc (nm, v) ++ encs suf) _ _ hj5, gD_r (encs pre) (enc (nm, w) ++ encs suf) _ _ hj5, encs_len]
            by_cases hj3 : j - 2 - tsz pre < nm.length + 5
            · rw [gD_l (enc (nm, v)) _ _ _ (by rw [enc_len]; exact hj3), gD_l (enc (nm, w)) _ _ _ (by rw [enc_len]; exact hj3)]
              by_cases hj4 : j - 2 - tsz pre = 0
              · rw [hj4, enc_0, enc_0]
              · rw [show j - 2 - tsz pre = 1 + (j - 2 - tsz pre - 1) by omega, enc_n (x := (nm, v)) (by show _ < nm.length; omega), enc_n (x := (nm, w)) (by show _ < nm.length; omega)]
            · rw [gD_r (enc (nm, v)) _ _ _ (by rw [enc_len]; exact Nat.not_lt.mp hj3), gD_r (enc (nm, w)) _ _ _ (by rw [enc_len]; exact Nat.not_lt.mp hj3), enc_len, enc_len]
              rfl
    · rw [if_neg h60, if_neg h60]
