/-! soundness, fourth part: returns, throws, calls; the whole -/
def am_Q (G : am_Ev) (r : am_R) : Array Value → State → Outcome → State → Prop := fun _ st o t => match r.1 with
  | .inl v => o = .returned v ∧ am_P G r.2 t.heap ∧ va_F (am_A G.2.2.1) st t
  | .inr _ => False
def am_XC (G : am_Ev) (r : am_R) : String → State → State → Prop := fun E st t => match r.1 with
  | .inl _ => False
  | .inr x => E = am_en x ∧ x < 3 ∧ am_P G r.2 t.heap ∧ va_F (am_A G.2.2.1) st t
def am_Pc (G : am_Ev) (As : List Value) (σ : am_S) : Array Value → State → Prop := va_Pc As (fun U => am_G G U ∧ am_P G σ U.heap)
def am_rm (M mc ms : Nat) : Room := { frames := am_fr M, cells := mc, slots := ms, locals := 500 * am_fr M }
theorem am_goodT {w : Cond} (h : w ∈ am_T) : (w.onTables && w.keeps) = true ∨ ∃ ty, w = .arrayClass ty := good_of_word (List.mem_filter.mp h).2
theorem am_goodW {M : Nat} (h : M < 135) : GoodIn am_T (am_cw M :: am_T) := fun w hw => by
  rcases List.mem_cons.mp hw with rfl | hw
  · exact ⟨am_cw_in M h, am_goodT (am_cw_in M h)⟩
  · exact ⟨hw, am_goodT hw⟩
theorem am_goodC {M : Nat} {ws : List Cond} (h : M < 135) (hw : ∀ w ∈ ws, w ∈ am_T) : GoodIn am_T (ws ++ (am_cw M :: am_T)) := fun w h1 => by
  rcases List.mem_append.mp h1 with h2 | h2
  · exact ⟨hw w h2, am_goodT (hw w h2)⟩
  · exact am_goodW h w h2
theorem am_hM {M : Nat} (h : M < 136) {l : Launch} {ws' : List Cond} {rm : Room} {Pc : Array Value → State → Prop} {Qc : Array Value → State → Outcome → State → Prop} {XC : String → State → State → Prop} {mc ms : Nat} {free : Addr → Prop} (he : am_hh M = [])
    (body : ∀ p e s m args below meth c s₁, BodyLoose p l (am_y M) (headSpec (am_cw M :: ws') rm) (am_cod M) (am_nL M) (am_ret M) e s m args below meth c s₁ → c.maxLocals = am_nL M → (∀ x ∈ c.exceptionTable.toList, False) → Pc args s →
      W p l e (headSpec (am_cw M :: ws') rm).room s m args below meth c s.heap [] 0 0 (vx_MQ below Qc XC args s mc ms free) (entryFrame m args (am_nL M))) : vx_Met l (am_y M) (am_cw M :: ws') rm Pc Qc XC mc ms free :=
  vx_ofW (ws' := ws') (am_yP M h) (by rw [am_cw, he]; rfl) body
theorem am_hMW {M : Nat} (h : M < 136) {l : Launch} {ws' : List Cond} {rm : Room} {Pc : Array Value → State → Prop} {Qc : Array Value → State → Outcome → State → Prop} {XC : String → State → State → Prop} {mc ms : Nat} {free : Addr → Prop} (he : am_hh M ≠ [])
    (body : ∀ p e s m args below meth c s₁, BodyLoose p l (am_y M) (headSpec (am_cw M :: ws') rm) (am_cod M) (am_nL M) (am_ret M) e s m args below meth c s₁ → c.maxLocals = am_nL M → Pc args s →
      W p l e (headSpec (am_cw M :: ws') rm).room s m args below meth c s.heap [] 0 0 (vx_MQ below Qc XC args s mc ms free) (entryFrame m args (am_nL M))) : vx_Met l (am_y M) (am_cw M :: ws') rm Pc Qc XC mc ms free :=
  vx_ofWH (ws' := ws') (hh := am_hh M) (am_yP M h) (by rw [am_cw, if_neg (by simpa using he)]) body
def am_rel (σ σ' : am_S) : Prop := σ.2.2.1 ≤ σ'.2.2.1 ∧ σ.2.2.2 ≤ σ'.2.2.2 ∧ (σ'.2.1 ≠ 0 → σ.2.1 ≠ 0 ∧ σ'.2.1 + σ.2.2.1 = σ.2.1 + σ'.2.2.1)
theorem am_rel.rf (σ : am_S) : am_rel σ σ := ⟨Nat.le_refl _, Nat.le_refl _, fun h => ⟨h, rfl⟩⟩
theorem am_rel.tr {a b c : am_S} (h : am_rel a b) (g : am_rel b c) : am_rel a c := by
  obtain ⟨h1, h2, h3⟩ := h
  obtain ⟨g1, g2, g3⟩ := g
  refine ⟨Nat.le_trans h1 g1, Nat.le_trans h2 g2, fun hc => ?_⟩
  obtain ⟨x1, x2⟩ := g3 hc
  obtain ⟨y1, y2⟩ := h3 x1
  exact ⟨y1, by omega⟩
theorem am_rel.eq {σ σ' : am_S} (h : σ'.2 = σ.2) : am_rel σ σ' := by
  unfold am_rel
  rw [h]
  exact ⟨Nat.le_refl _, Nat.le_refl _, fun h => ⟨h, rfl⟩⟩
theorem am_rel.mk {σ : am_S} {f : Nat → Option va_E} {n : Nat} (h : σ.2.1 ≠ 0) : am_rel σ (f, σ.2.1 + 1, σ.2.2.1 + 1, σ.2.2.2 + n) := ⟨Nat.le_succ _, Nat.le_add_right _ _, fun _ => ⟨h, by show σ.2.1 + 1 + σ.2.2.1 = σ.2.1 + (σ.2.2.1 + 1); omega⟩⟩
set_option maxHeartbeats 4000000 in
theorem am_i2_rel {M len pc pc' : Nat} {i : Instr} {st st' : List Value} {σ σ' : am_S} (h : am_i2 M i len pc st σ = some (pc', st', σ')) : am_rel σ σ' := by
  unfold am_i2 at h
  repeat' split at h
  all_goals first
    | (cases h; done)
    | (cases h; exact am_rel.rf _)
    | (cases h; exact am_rel.eq rfl)
    | (cases h; exact am_rel.mk (by assumption))
    | (cases h; exact am_rel.mk (by rename_i hh; exact fun z => hh (Or.inl z)))
def am_xr (σ : am_S) (x : am_C ⊕ am_R) : Prop := match x with
  | .inl c => c.2.2.2.2 = σ
  | .inr r => r.2 = σ
def am_nr (σ : am_S) (M pc : Nat) (ls : List Value) (x : am_N) : Prop := match x with
  | .inl c => am_rel σ c.2.2.2.2
  | .inr (.inl r) => am_rel σ r.2
  | .inr (.inr (c, k)) => c.2.2.2.2 = σ ∧ ∃ ini rest, k = am_k ini M pc ls rest
theorem am_ct_rel {M pc : Nat} {ls : List Value} {E : Nat} {σ : am_S} : ∀ {hs : List (Nat × Nat × Nat × Nat)} {x : am_C ⊕ am_R}, am_ct M pc ls E σ hs = some x → am_xr σ x
  | [], x, h => by cases h; rfl
  | (a, b, hd, t) :: r, x, h => by
    unfold am_ct at h
    split at h
    · split at h
      · split at h
        · split at h
          · split at h
            · cases h; rfl
            · cases h
          · split at h
            · cases h; rfl
            · cases h
          · cases h
        · exact am_ct_rel h
      · cases h
    · exact am_ct_rel h
theorem am_k_rel {ini : Bool} {M pc : Nat} {ls rest : List Value} {r : am_R} {x : am_C ⊕ am_R} (h : am_k ini M pc ls rest r = some x) : am_xr r.2 x := by
  obtain ⟨o, σ⟩ := r
  cases o with
  | inl v => cases h; rfl
  | inr E =>
    have h' : (if ini = true then none else am_ct M pc ls E σ (am_hh M)) = some x := h
    by_cases hi : ini = true
    · rw [if_pos hi] at h'; cases h'
    · rw [if_neg hi] at h'
      exact am_ct_rel h'
theorem am_call_rel {ini : Bool} {M pc M' : Nat} {ls rest As : List Value} {σ : am_S} {x : am_N} (h : am_call ini M pc ls rest M' As σ = some x) : am_nr σ M pc ls x := by
  unfold am_call at h
  obtain ⟨-, h⟩ := am_ifS h
  cases h
  exact ⟨rfl, _, _, rfl⟩
set_option maxHeartbeats 4000000 in
/-- the three ways of a step -/
theorem am_i3_rel {M len pc : Nat} {i : Instr} {ls st : List Value} {σ : am_S} {x : am_N} (h : am_i3 M i len pc ls st σ = some x) : am_nr σ M pc ls x := by
  unfold am_i3 at h
  repeat' split at h
  all_goals first
    | (cases h; done)
    | exact am_call_rel h
    | (cases h; exact am_rel.rf _)
    | (cases h; exact ⟨Nat.le_succ _, Nat.le_add_right _ _, fun z => absurd rfl z⟩)
theorem am_step_rel {c : am_C} {x : am_N} (h : am_step c = some x) : am_nr c.2.2.2.2 c.1 c.2.1 c.2.2.1 x := by
  obtain ⟨M, pc, ls, st, σ⟩ := c
  unfold am_step at h
  dsimp only at h
  split at h
  · split at h
    · cases h; exact am_rel.rf _
    · split at h
      · rename_i h2
        cases h; exact am_i2_rel h2
      · exact am_i3_rel h
  · cases h
theorem am_ex_rel : ∀ (n : Nat) (c : am_C) (r : am_R), am_ex n c = some r → am_rel c.2.2.2.2 r.2 := by
  intro n
  induction n with
  | zero => intro c r h; simp [am_ex] at h
  | succ n ih =>
    intro c r h
    rw [am_ex] at h
    cases hs : am_step c with
    | none => simp [hs] at h
    | some x =>
      have hr := am_step_rel hs
      rw [hs] at h
      match x, h, hr with
      | .inl c', h, hr => exact hr.tr (ih _ _ h)
      | .inr (.inl r'), h, hr => cases h; exact hr
      | .inr (.inr (c', k)), h, hr =>
        dsimp only at h hr
        obtain ⟨hr1, ini, rest, hr2⟩ := hr
        cases h1 : am_ex n c' with
        | none => simp [h1] at h
        | some r1 =>
          rw [h1] at h
          dsimp only at h
          have q1 := ih _ _ h1
          rw [hr1] at q1
          cases h2 : k r1 with
          | none => simp [h2] at h
          | some y =>
            rw [h2] at h
            rw [hr2] at h2
            have q2 := am_k_rel h2
            match y, h, q2 with
            | .inl c2, h, q2 =>
              have q3 := ih _ _ h
              have q2 : c2.2.2.2.2 = r1.2 := q2
              rw [q2] at q3
              exact q1.tr q3
            | .inr r2, h, q2 =>
              cases h
              have q2 : r.2 = r1.2 := q2
              rw [q2]
              exact q1
