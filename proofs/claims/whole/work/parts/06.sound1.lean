/-! soundness, first part: steps that touch no heap -/
/-- the machine's variables and the frame's -/
def am_L (ls : List Value) (Ls : Array Slot) (nL : Nat) : Prop := ls.length ≤ nL ∧ Ls.size = nL ∧ lv_wf Ls ∧ ∀ (i : Nat) (v : Value), ls[i]? = some v → v ≠ am_jk → Ls[i]? = some (.val v) ∧ v.category = 1
def am_pr (ls : List Value) : List (Nat × Value) := (List.range ls.length).filterMap (fun i => match ls[i]? with
  | some v => if v = am_jk then none else some (i, v)
  | none => none)
theorem am_pr_mem {ls : List Value} {q : Nat × Value} : q ∈ am_pr ls ↔ ls[q.1]? = some q.2 ∧ q.2 ≠ am_jk := by
  unfold am_pr
  rw [List.mem_filterMap]
  constructor
  · rintro ⟨i, hi, h⟩
    cases hv : ls[i]? with
    | none => rw [hv] at h; cases h
    | some v =>
      rw [hv] at h
      dsimp only at h
      by_cases hj : v = am_jk
      · rw [if_pos hj] at h; cases h
      · rw [if_neg hj] at h
        cases h
        exact ⟨hv, hj⟩
  · rintro ⟨h1, h2⟩
    refine ⟨q.1, List.mem_range.mpr (List.getElem?_eq_some_iff.mp h1).1, ?_⟩
    rw [h1]
    dsimp only
    rw [if_neg h2]
theorem am_L.has {ls : List Value} {Ls : Array Slot} {nL : Nat} (h : am_L ls Ls nL) : lv_has Ls nL (am_pr ls) := ⟨h.2.1, h.2.2.1, fun q hq => (h.2.2.2 q.1 q.2 (am_pr_mem.mp hq).1 (am_pr_mem.mp hq).2).1⟩
theorem am_L.set {ls : List Value} {Ls Ls' : Array Slot} {nL i : Nat} {x : Value} (h : am_L ls Ls nL) (hx : x.category = 1) (h' : lv_has Ls' nL ((i, x) :: (am_pr ls).filter (fun q => !(q.1 == i) && !(q.1 + 1 == i && q.2.category == 2)))) : am_L (ls.set i x) Ls' nL := by
  obtain ⟨h1, h2, h3, h4⟩ := h
  obtain ⟨g1, g2, g3⟩ := h'
  refine ⟨by rw [List.length_set]; exact h1, g1, g2, fun j v hv hj => ?_⟩
  by_cases hij : i = j
  · subst hij
    rw [List.getElem?_set] at hv
    split at hv
    · split at hv
      · cases hv
        exact ⟨g3 (i, x) List.mem_cons_self, hx⟩
      · cases hv
    · exact absurd rfl (by assumption)
  · rw [List.getElem?_set_ne hij] at hv
    have hc := (h4 j v hv hj).2
    refine ⟨g3 (j, v) (List.mem_cons_of_mem _ (List.mem_filter.mpr ⟨am_pr_mem.mpr ⟨hv, hj⟩, ?_⟩)), hc⟩
    simp [hc, Ne.symm hij]
theorem am_L.at {ls : List Value} {Ls : Array Slot} {nL i : Nat} {v : Value} (h : am_L ls Ls nL) (hv : ls[i]? = some v) (hj : v ≠ am_jk) : Ls[i]? = some (.val v) := (h.2.2.2 i v hv hj).1
theorem am_brS {b : Prop} [Decidable b] {pc pc' : Nat} {off : Int} {ls ls' st st' : List Value} (h : am_br b pc off ls st = some (pc', ls', st')) : ls' = ls ∧ st' = st ∧ ∃ tgt : Nat, (pc : Int) + off = (tgt : Int) ∧ (b → pc' = tgt) ∧ (¬ b → pc' = pc + 3) := by
  unfold am_br at h
  by_cases h0 : 0 ≤ (pc : Int) + off
  · rw [if_pos h0] at h
    cases h
    exact ⟨rfl, rfl, ((pc : Int) + off).toNat, by omega, fun hb => if_pos hb, fun hb => if_neg hb⟩
  · rw [if_neg h0] at h; cases h
theorem am_goS {pc pc' : Nat} {off : Int} {ls ls' st st' : List Value} (h : am_go pc off ls st = some (pc', ls', st')) : ls' = ls ∧ st' = st ∧ (pc : Int) + off = (pc' : Int) := by
  unfold am_go at h
  by_cases h0 : 0 ≤ (pc : Int) + off
  · rw [if_pos h0] at h
    cases h
    exact ⟨rfl, rfl, by omega⟩
  · rw [if_neg h0] at h; cases h
theorem am_ifS {α : Type} {b : Prop} [Decidable b] {x : Option α} {y : α} (h : (if b then x else none) = some y) : b ∧ x = some y := by
  by_cases hb : b
  · rw [if_pos hb] at h; exact ⟨hb, h⟩
  · rw [if_neg hb] at h; cases h
/-- what is known in a method's body -/
def am_X (M : Nat) (p : Program) (l : Launch) (R : Room) (s : State) (m : MethodId) (args : Array Value) (meth : Method) (c : Code) : Prop :=
  p.tables.exec = Jvm.exec ∧ c.code = am_cod M ∧ meth.sig.returnType = am_ret M ∧ c.maxLocals = am_nL M ∧ s.vm.findClass (am_on (am_own M)) = some m.cls ∧ (∀ w ∈ lw_tbl.filter goodWord, w.before args s = true) ∧ meth.locks = false ∧
  c.exceptionTable.toList = tableOf (am_hh M) ∧ ((am_y M).name = "<init>" → meth.name = "<init>") ∧ am_fr M ≤ R.frames ∧ 500 * am_fr M ≤ R.locals ∧ l.stackTraces = false
theorem am_vT_ok : ∀ q ∈ am_vT, Cond.constant (am_on q.1.1) q.1.2 q.2 ∈ lw_tbl.filter goodWord := by decide +kernel
theorem am_lk {α β : Type} [BEq α] [LawfulBEq α] {l : List (α × β)} {a : α} {b : β} (h : l.lookup a = some b) : (a, b) ∈ l := by
  induction l with
  | nil => cases h
  | cons q r ih =>
    obtain ⟨x, y⟩ := q
    rw [List.lookup_cons] at h
    by_cases hx : a == x
    · rw [hx] at h
      cases h
      rw [eq_of_beq hx]
      exact List.mem_cons_self
    · rw [Bool.not_eq_true] at hx
      rw [hx] at h
      exact List.mem_cons_of_mem _ (ih h)
section
variable {p : Program} {l : Launch} {e : Env} {R : Room} {s : State} {m : MethodId} {args : Array Value} {below : List Frame} {meth : Method} {c : Code} {H : Heap} {locs : List Loc} {cells slots : Nat} {Q : State → Prop}
theorem am_ldS {M i nL pc pc2 pc' : Nat} {isI : Bool} {ls ls' st st' : List Value} {Ls : Array Slot} (hL : am_L ls Ls nL) (h : am_ld i isI pc2 ls st = some (pc', ls', st')) (kk : ∀ Ls', am_L ls' Ls' nL → W p l e R s m args below meth c H locs cells slots Q (F0 m pc' Ls' st'))
    (ri : ∀ x : Int32, isI = true → Ls[i]? = some (.val (.int x)) → W p l e R s m args below meth c H locs cells slots Q (F0 m pc2 Ls (.int x :: st)) → W p l e R s m args below meth c H locs cells slots Q (F0 m pc Ls st))
    (ra : ∀ x : Nat, isI = false → Ls[i]? = some (.val (.ref x)) → W p l e R s m args below meth c H locs cells slots Q (F0 m pc2 Ls (.ref x :: st)) → W p l e R s m args below meth c H locs cells slots Q (F0 m pc Ls st)) : W p l e R s m args below meth c H locs cells slots Q (F0 m pc Ls st) := by
  unfold am_ld at h
  split at h
  · rename_i x hx
    cases h
    exact ri x rfl (hL.at hx (by intro h; cases h)) (kk _ hL)
  · rename_i x hx
    cases h
    exact ra x rfl (hL.at hx (by intro h; cases h)) (kk _ hL)
  · cases h
theorem am_stoS {M i nL pc pc2 pc' : Nat} {isI : Bool} {ls ls' st st' : List Value} {Ls : Array Slot} (hL : am_L ls Ls nL) (h : am_sto i isI pc2 ls st = some (pc', ls', st')) (kk : ∀ Ls', am_L ls' Ls' nL → W p l e R s m args below meth c H locs cells slots Q (F0 m pc' Ls' st'))
    (ri : ∀ (x : Int32) (r : List Value), isI = true → i < nL → (∀ Ls' : Array Slot, lv_has Ls' nL ((i, .int x) :: (am_pr ls).filter (fun q => !(q.1 == i) && !(q.1 + 1 == i && q.2.category == 2))) → W p l e R s m args below meth c H locs cells slots Q (F0 m pc2 Ls' r)) → W p l e R s m args below meth c H locs cells slots Q (F0 m pc Ls (.int x :: r)))
    (ra : ∀ (x : Nat) (r : List Value), isI = false → i < nL → (∀ Ls' : Array Slot, lv_has Ls' nL ((i, .ref x) :: (am_pr ls).filter (fun q => !(q.1 == i) && !(q.1 + 1 == i && q.2.category == 2))) → W p l e R s m args below meth c H locs cells slots Q (F0 m pc2 Ls' r)) → W p l e R s m args below meth c H locs cells slots Q (F0 m pc Ls (.ref x :: r))) : W p l e R s m args below meth c H locs cells slots Q (F0 m pc Ls st) := by
  unfold am_sto at h
  obtain ⟨hi, h⟩ := am_ifS h
  split at h
  · cases h
    exact ri _ _ rfl (Nat.lt_of_lt_of_le hi hL.1) (fun Ls' h' => kk _ (hL.set rfl h'))
  · cases h
    exact ra _ _ rfl (Nat.lt_of_lt_of_le hi hL.1) (fun Ls' h' => kk _ (hL.set rfl h'))
  · cases h
theorem am_binS {f : Int32 → Int32 → Int32} {nL pc pc' : Nat} {ls ls' st st' : List Value} {Ls : Array Slot} (hL : am_L ls Ls nL) (h : am_bin f pc ls st = some (pc', ls', st')) (kk : ∀ Ls', am_L ls' Ls' nL → W p l e R s m args below meth c H locs cells slots Q (F0 m pc' Ls' st'))
    (r : ∀ (x y : Int32) (r : List Value), W p l e R s m args below meth c H locs cells slots Q (F0 m (pc + 1) Ls (.int (f x y) :: r)) → W p l e R s m args below meth c H locs cells slots Q (F0 m pc Ls (.int y :: .int x :: r))) : W p l e R s m args below meth c H locs cells slots Q (F0 m pc Ls st) := by
  unfold am_bin at h
  split at h
  · cases h
    exact r _ _ _ (kk _ hL)
  · cases h
set_option maxHeartbeats 4000000 in
theorem am_s1 {M pc len pc' : Nat} {i : Instr} {ls ls' st st' : List Value} {Ls : Array Slot} (hX : am_X M p l R s m args meth c) (hd : decode (am_cod M) pc = .ok (i, len)) (h : am_i1 (am_own M) i len pc ls st = some (pc', ls', st')) (hL : am_L ls Ls (am_nL M))
    (kk : ∀ Ls', am_L ls' Ls' (am_nL M) → W p l e R s m args below meth c H locs cells slots Q (F0 m pc' Ls' st')) : W p l e R s m args below meth c H locs cells slots Q (F0 m pc Ls st) := by
  obtain ⟨hx, hb, -, -, hown, hts, -⟩ := hX
  unfold am_i1 at h
  split at h
  · obtain ⟨rfl, g⟩ := am_ifS h
    clear h
    have h := g
    clear g
    cases h
    exact lv_iconst hx hb hd rfl (kk _ hL)
  · obtain ⟨rfl, g⟩ := am_ifS h
    clear h
    have h := g
    clear g
    cases h
    exact lv_bipush hx hb hd rfl (kk _ hL)
  · obtain ⟨rfl, g⟩ := am_ifS h
    clear h
    have h := g
    clear g
    cases h
    exact lv_sipush hx hb hd rfl (kk _ hL)
  · obtain ⟨rfl, g⟩ := am_ifS h
    clear h
    have h := g
    clear g
    cases h
    exact lv_lconst hx hb hd rfl (kk _ hL)
  · obtain ⟨rfl, g⟩ := am_ifS h
    clear h
    have h := g
    clear g
    split at h
    · rename_i v hv
      cases h
      exact lv_ldc hx hb hown (hts _ (am_vT_ok _ (am_lk hv))) hd (kk _ hL)
    · cases h
  · obtain ⟨rfl, g⟩ := am_ifS h
    clear h
    have h := g
    clear g
    exact am_ldS (M := M) hL h kk (fun x _ h1 k => lv_iload hx hb hd h1 k) (fun x h0 => by cases h0)
  · obtain ⟨rfl, g⟩ := am_ifS h
    clear h
    have h := g
    clear g
    exact am_ldS (M := M) hL h kk (fun x _ h1 k => lv_iload_n hx hb hd rfl h1 k) (fun x h0 => by cases h0)
  · obtain ⟨rfl, g⟩ := am_ifS h
    clear h
    have h := g
    clear g
    exact am_ldS (M := M) hL h kk (fun x h0 => by cases h0) (fun x _ h1 k => lv_aload hx hb hd h1 k)
  · obtain ⟨rfl, g⟩ := am_ifS h
    clear h
    have h := g
    clear g
    exact am_ldS (M := M) hL h kk (fun x h0 => by cases h0) (fun x _ h1 k => lv_aload_n hx hb hd rfl h1 k)
  · obtain ⟨rfl, g⟩ := am_ifS h
    clear h
    have h := g
    clear g
    exact am_stoS (M := M) hL h kk (fun x r _ h1 k => lv_istore hx hb hd hL.has h1 rfl k) (fun x r h0 => by cases h0)
  · obtain ⟨rfl, g⟩ := am_ifS h
    clear h
    have h := g
    clear g
    exact am_stoS (M := M) hL h kk (fun x r _ h1 k => lv_istore_n hx hb hd rfl hL.has h1 rfl k) (fun x r h0 => by cases h0)
  · obtain ⟨rfl, g⟩ := am_ifS h
    clear h
    have h := g
    clear g
    exact am_stoS (M := M) hL h kk (fun x r h0 => by cases h0) (fun x r _ h1 k => lv_astore hx hb hd hL.has h1 rfl k)
  · obtain ⟨rfl, g⟩ := am_ifS h
    clear h
    have h := g
    clear g
    exact am_stoS (M := M) hL h kk (fun x r h0 => by cases h0) (fun x r _ h1 k => lv_astore_n hx hb hd rfl hL.has h1 rfl k)
  · obtain ⟨rfl, g⟩ := am_ifS h
    clear h
    have h := g
    clear g
    split at h
    · rename_i k n o x hv
      cases h
      obtain ⟨j, hj⟩ := List.mem_iff_getElem?.mp (am_pr_mem (q := (k, .int x)).mpr ⟨hv, by intro h; cases h⟩)
      exact lv_iinc hx hb hd hL.has hj rfl (Nat.lt_of_lt_of_le (List.getElem?_eq_some_iff.mp hv).1 hL.1) rfl (fun Ls' h' => kk _ (hL.set rfl h'))
    · cases h
  · obtain ⟨rfl, g⟩ := am_ifS h
    clear h
    have h := g
    clear g
    exact am_binS hL h kk (fun x y r k => lv_iadd hx hb hd k)
  · obtain ⟨rfl, g⟩ := am_ifS h
    clear h
    have h := g
    clear g
    exact am_binS hL h kk (fun x y r k => lv_isub hx hb hd k)
  · obtain ⟨rfl, g⟩ := am_ifS h
    clear h
    have h := g
    clear g
    exact am_binS hL h kk (fun x y r k => lv_imul hx hb hd k)
  · obtain ⟨rfl, g⟩ := am_ifS h
    clear h
    have h := g
    clear g
    exact am_binS hL h kk (fun x y r k => lv_iand hx hb hd k)
  · obtain ⟨rfl, g⟩ := am_ifS h
    clear h
    have h := g
    clear g
    exact am_binS hL h kk (fun x y r k => lv_ior hx hb hd k)
  · obtain ⟨rfl, g⟩ := am_ifS h
    clear h
    have h := g
    clear g
    exact am_binS hL h kk (fun x y r k => lv_ixor hx hb hd k)
  · obtain ⟨rfl, g⟩ := am_ifS h
    clear h
    have h := g
    clear g
    exact am_binS hL h kk (fun x y r k => lv_ishl hx hb hd k)
  · obtain ⟨rfl, g⟩ := am_ifS h
    clear h
    have h := g
    clear g
    exact am_binS hL h kk (fun x y r k => lv_ishr hx hb hd k)
  · obtain ⟨rfl, g⟩ := am_ifS h
    clear h
    have h := g
    clear g
    exact am_binS hL h kk (fun x y r k => lv_iushr hx hb hd rfl k)
  · obtain ⟨rfl, g⟩ := am_ifS h
    clear h
    have h := g
    clear g
    split at h
    · cases h
      exact lv_i2l hx hb hd rfl (kk _ hL)
    · cases h
  · obtain ⟨rfl, g⟩ := am_ifS h
    clear h
    have h := g
    clear g
    split at h
    · cases h
      exact W.lcmp hx hb hd (kk _ hL)
    · cases h
  · obtain ⟨rfl, g⟩ := am_ifS h
    clear h
    have h := g
    clear g
    split at h
    · cases h
      exact lv_dup hx hb hd rfl (kk _ hL)
    · cases h
      exact lv_dup hx hb hd rfl (kk _ hL)
    · cases h
  · obtain ⟨rfl, g⟩ := am_ifS h
    clear h
    have h := g
    clear g
    split at h
    · cases h
      exact lv_dup2_11 hx hb hd rfl rfl (kk _ hL)
    · cases h
  · obtain ⟨rfl, g⟩ := am_ifS h
    clear h
    have h := g
    clear g
    split at h
    · cases h
      exact lv_pop hx hb hd rfl (kk _ hL)
    · cases h
  · obtain ⟨rfl, g⟩ := am_ifS h
    clear h
    have h := g
    clear g
    obtain ⟨rfl, rfl, ht⟩ := am_goS h
    exact lv_goto hx hb hd ht (kk _ hL)
  · obtain ⟨rfl, g⟩ := am_ifS h
    clear h
    have h := g
    clear g
    split at h
    · obtain ⟨rfl, rfl, t, ht, h1, h2⟩ := am_brS h
      exact lv_if_eq hx hb hd ht (fun q => by have := kk _ hL; rw [h1 q] at this; exact this) (fun q => by have := kk _ hL; rw [h2 q] at this; exact this)
    · obtain ⟨rfl, rfl, t, ht, h1, h2⟩ := am_brS h
      exact lv_if_ne hx hb hd ht (fun q => by have := kk _ hL; rw [h1 q] at this; exact this) (fun q => by have := kk _ hL; rw [h2 (fun z => z q)] at this; exact this)
    · obtain ⟨rfl, rfl, t, ht, h1, h2⟩ := am_brS h
      exact lv_if_lt hx hb hd ht (fun q => by have := kk _ hL; rw [h1 q] at this; exact this) (fun q => by have := kk _ hL; rw [h2 q] at this; exact this)
    · obtain ⟨rfl, rfl, t, ht, h1, h2⟩ := am_brS h
      exact lv_if_ge hx hb hd ht (fun q => by have := kk _ hL; rw [h1 q] at this; exact this) (fun q => by have := kk _ hL; rw [h2 q] at this; exact this)
    · obtain ⟨rfl, rfl, t, ht, h1, h2⟩ := am_brS h
      exact lv_if_gt hx hb hd ht (fun q => by have := kk _ hL; rw [h1 q] at this; exact this) (fun q => by have := kk _ hL; rw [h2 q] at this; exact this)
    · obtain ⟨rfl, rfl, t, ht, h1, h2⟩ := am_brS h
      exact lv_if_le hx hb hd ht (fun q => by have := kk _ hL; rw [h1 q] at this; exact this) (fun q => by have := kk _ hL; rw [h2 q] at this; exact this)
    · cases h
  · obtain ⟨rfl, g⟩ := am_ifS h
    clear h
    have h := g
    clear g
    split at h
    · obtain ⟨rfl, rfl, t, ht, h1, h2⟩ := am_brS h
      exact lv_icmp_eq hx hb hd ht (fun q => by have := kk _ hL; rw [h1 q] at this; exact this) (fun q => by have := kk _ hL; rw [h2 q] at this; exact this)
    · obtain ⟨rfl, rfl, t, ht, h1, h2⟩ := am_brS h
      exact lv_icmp_ne hx hb hd ht (fun q => by have := kk _ hL; rw [h1 q] at this; exact this) (fun q => by have := kk _ hL; rw [h2 (fun z => z q)] at this; exact this)
    · obtain ⟨rfl, rfl, t, ht, h1, h2⟩ := am_brS h
      exact lv_icmp_lt hx hb hd ht (fun q => by have := kk _ hL; rw [h1 q] at this; exact this) (fun q => by have := kk _ hL; rw [h2 q] at this; exact this)
    · obtain ⟨rfl, rfl, t, ht, h1, h2⟩ := am_brS h
      exact lv_icmp_ge hx hb hd ht (fun q => by have := kk _ hL; rw [h1 q] at this; exact this) (fun q => by have := kk _ hL; rw [h2 q] at this; exact this)
    · obtain ⟨rfl, rfl, t, ht, h1, h2⟩ := am_brS h
      exact lv_icmp_gt hx hb hd ht (fun q => by have := kk _ hL; rw [h1 q] at this; exact this) (fun q => by have := kk _ hL; rw [h2 q] at this; exact this)
    · obtain ⟨rfl, rfl, t, ht, h1, h2⟩ := am_brS h
      exact lv_icmp_le hx hb hd ht (fun q => by have := kk _ hL; rw [h1 q] at this; exact this) (fun q => by have := kk _ hL; rw [h2 q] at this; exact this)
    · cases h
  · split at h
    · split at h
      · rename_i hr
        obtain ⟨rfl, rfl, ht⟩ := am_goS h
        exact lv_tableOut hx hb hd hr ht (kk _ hL)
      · rename_i hr
        split at h
        · rename_i off ho
          obtain ⟨rfl, rfl, ht⟩ := am_goS h
          exact lv_tableIn hx hb hd (fun z => hr (Or.inl z)) (fun z => hr (Or.inr z)) ho ht (kk _ hL)
        · cases h
    · cases h
  · cases h
end
