/-! soundness, the whole -/
def am_Ok (l : Launch) (G : am_Ev) (n : Nat) : Prop := ∀ (M pc : Nat) (ls st : List Value) (σ : am_S) (r : am_R), am_ex n (M, pc, ls, st, σ) = some r → M < 136 →
  ∀ {p : Program} {e : Env} {R : Room} {s : State} {m : MethodId} {args : Array Value} {below : List Frame} {meth : Method} {c : Code} {H : Heap} {locs : List Loc} {Ls : Array Slot} {k0 s0 : Nat},
    am_X M p l R s m args meth c → am_G G s → am_P G σ H → va_S (am_A G.2.2.1) s.heap H locs → am_L ls Ls (am_nL M) → k0 ≤ σ.2.2.1 → s0 ≤ σ.2.2.2 → (σ.2.1 ≠ 0 → σ.2.1 = s.heap.size + (σ.2.2.1 - k0)) → r.2.2.2.1 - k0 ≤ R.cells → r.2.2.2.2 - s0 ≤ R.slots →
    W p l e R s m args below meth c H locs (σ.2.2.1 - k0) (σ.2.2.2 - s0) (vx_MQ below (am_Q G r) (am_XC G r) args s (r.2.2.2.1 - k0) (r.2.2.2.2 - s0) (am_A G.2.2.1)) (F0 m pc Ls st)
theorem am_met {l : Launch} {G : am_Ev} {n M : Nat} {As : List Value} {σ : am_S} {r : am_R} (hl : l.stackTraces = false) (IH : am_Ok l G n) (hM : M < 135) (hlen : As.length ≤ am_nL M) (hcat : ∀ v ∈ As, v.category = 1) (h : am_ex n (M, 0, As ++ List.replicate (am_nL M - As.length) am_jk, [], σ) = some r) :
    vx_Met l (am_y M) (am_cw M :: am_T) (am_rm M (r.2.2.2.1 - σ.2.2.1) (r.2.2.2.2 - σ.2.2.2)) (am_Pc G As σ) (am_Q G r) (am_XC G r) (r.2.2.2.1 - σ.2.2.1) (r.2.2.2.2 - σ.2.2.2) (am_A G.2.2.1) := by
  have hM' : M < 136 := by omega
  have body : ∀ (p : Program) (e : Env) (s : State) (m : MethodId) (args : Array Value) (below : List Frame) (meth : Method) (c : Code) (s₁ : State), BodyLoose p l (am_y M) (headSpec (am_cw M :: am_T) (am_rm M (r.2.2.2.1 - σ.2.2.1) (r.2.2.2.2 - σ.2.2.2))) (am_cod M) (am_nL M) (am_ret M) e s m args below meth c s₁ → c.maxLocals = am_nL M → c.exceptionTable.toList = tableOf (am_hh M) → am_Pc G As σ args s →
      W p l e (headSpec (am_cw M :: am_T) (am_rm M (r.2.2.2.1 - σ.2.2.1) (r.2.2.2.2 - σ.2.2.2))).room s m args below meth c s.heap [] 0 0 (vx_MQ below (am_Q G r) (am_XC G r) args s (r.2.2.2.1 - σ.2.2.1) (r.2.2.2.2 - σ.2.2.2) (am_A G.2.2.1)) (entryFrame m args (am_nL M)) := by
    intro p e s m args below meth c s₁ B hml htab hPc
    obtain ⟨rfl, hG, hP⟩ := hPc
    have hts := atoms_spec (ws := am_cw M :: am_T) B.pre
    have hown : s.vm.findClass (am_on (am_own M)) = some m.cls := by rw [← am_yO M hM']; exact findClass_of_methodNamed B.named
    have hX : am_X M p l (headSpec (am_cw M :: am_T) (am_rm M (r.2.2.2.1 - σ.2.2.1) (r.2.2.2.2 - σ.2.2.2))).room s m As.toArray meth c :=
      ⟨B.exec, B.bytes, B.returns, hml, hown, fun w hw => hts w (List.mem_cons_of_mem _ hw), B.notSynchronized, htab, fun hn => (name_of_methodNamed B.named B.method).1.trans hn, Nat.le_refl _, Nat.le_refl _, hl⟩
    rw [lg_entry_eq]
    have := IH M 0 _ [] σ r h hM' (p := p) (e := e) (below := below) (k0 := σ.2.2.1) (s0 := σ.2.2.2) (locs := []) (H := s.heap) hX hG hP va_S.rf (am_L_entry hlen hcat) (Nat.le_refl _) (Nat.le_refl _) (fun hn => by have := am_nE hP hn; omega) (Nat.le_refl _) (Nat.le_refl _)
    rw [Nat.sub_self, Nat.sub_self] at this
    exact this
  by_cases he : am_hh M = []
  · exact am_hM hM' he (fun p e s m args below meth c s₁ B hml hno hPc => body p e s m args below meth c s₁ B hml (by
      rw [he]
      cases ht : c.exceptionTable.toList with
      | nil => rfl
      | cons x t => exact (hno x (by rw [ht]; exact List.mem_cons_self)).elim) hPc)
  · refine am_hMW hM' he (fun p e s m args below meth c s₁ B hml hPc => body p e s m args below meth c s₁ B hml ?_ hPc)
    have hts := atoms_spec (ws := am_cw M :: am_T) B.pre
    have hcw := hts _ List.mem_cons_self
    rw [am_cw, if_neg (by simpa using he)] at hcw
    exact vx_table (x := am_y M) B hcw
theorem am_hz {s : State} {k0 : Nat} {σ σ' : am_S} (hz : σ.2.1 ≠ 0 → σ.2.1 = s.heap.size + (σ.2.2.1 - k0)) (hk : k0 ≤ σ.2.2.1) (h : am_rel σ σ') : σ'.2.1 ≠ 0 → σ'.2.1 = s.heap.size + (σ'.2.2.1 - k0) := fun hn => by
  obtain ⟨h1, h2, h3⟩ := h
  obtain ⟨g1, g2⟩ := h3 hn
  have := hz g1
  omega
set_option maxHeartbeats 4000000 in
theorem am_sound {l : Launch} {G : am_Ev} (hl : l.stackTraces = false) : ∀ n, am_Ok l G n := by
  intro n
  induction n with
  | zero => intro M pc ls st σ r h; simp [am_ex] at h
  | succ n ih =>
    intro M pc ls st σ r h hM p e R s m args below meth c H locs Ls k0 s0 hX hG hP hS hL hk hs hz hR1 hR2
    rw [am_ex] at h
    cases hstep : am_step (M, pc, ls, st, σ) with
    | none => simp [hstep] at h
    | some x =>
      have hrel := am_step_rel hstep
      rw [hstep] at h
      unfold am_step at hstep
      dsimp only at hstep
      split at hstep
      · rename_i i len hd
        split at hstep
        · rename_i pc' ls' st' h1
          cases hstep
          exact am_s1 hX hd h1 hL (fun Ls' hL' => ih M pc' ls' st' σ r h hM hX hG hP hS hL' hk hs hz hR1 hR2)
        · split at hstep
          · rename_i pc' st' σ' h2
            cases hstep
            have q := am_ex_rel _ _ _ h
            have hr2 := am_i2_rel h2
            have q1 : σ'.2.2.1 ≤ r.2.2.2.1 := q.1
            have q2 : σ'.2.2.2 ≤ r.2.2.2.2 := q.2.1
            exact am_s2 hM hX hG hd h2 hP hS hL.2.1 hk hs hz (by omega) (by omega) (fun H' locs' hP' hS' => ih M pc' ls st' σ' r h hM hX hG hP' hS' hL (Nat.le_trans hk hr2.1) (Nat.le_trans hs hr2.2.1) (am_hz hz hk hr2) hR1 hR2)
          · match x, h, hstep, hrel with
            | .inl c', h, hstep, hrel =>
              exact absurd hstep (by
                intro z
                have : ∀ y, am_i3 M i len pc ls st σ = some y → ∀ c', y ≠ .inl c' := by
                  intro y hy c'
                  unfold am_i3 am_call at hy
                  repeat' split at hy
                  all_goals first
                    | (cases hy; done)
                    | (cases hy; intro h; cases h)
                exact this _ z _ rfl)
            | .inr (.inl r'), h, hstep, hrel =>
              cases h
              exact am_s3 hM hX hG hd hstep hP hS hL hk hs hR1 hR2
            | .inr (.inr (c', k)), h, hstep, hrel =>
              obtain ⟨M', As, rest, ini, rfl, rfl, hM', hlen, hcat, hrun⟩ := am_run3 (p := p) (e := e) (R := R) (below := below) (cells := σ.2.2.1 - k0) (slots := σ.2.2.2 - s0) hX hG hd hstep hP hS hL
              dsimp only at h
              cases h1 : am_ex n (M', 0, As ++ List.replicate (am_nL M' - As.length) am_jk, [], σ) with
              | none => simp [h1] at h
              | some r1 =>
                rw [h1] at h
                dsimp only at h
                have q1 := am_ex_rel _ _ _ h1
                have a1 : σ.2.2.1 ≤ r1.2.2.2.1 := q1.1
                have a2 : σ.2.2.2 ≤ r1.2.2.2.2 := q1.2.1
                cases h2 : am_k ini M pc ls rest r1 with
                | none => simp [h2] at h
                | some y =>
                  rw [h2] at h
                  have hxr := am_k_rel h2
                  have hbd : r1.2.2.2.1 ≤ r.2.2.2.1 ∧ r1.2.2.2.2 ≤ r.2.2.2.2 := by
                    match y, h, hxr with
                    | .inl c2, h, hxr =>
                      have q3 := am_ex_rel _ _ _ h
                      have hxr : c2.2.2.2.2 = r1.2 := hxr
                      rw [hxr] at q3
                      exact ⟨q3.1, q3.2.1⟩
                    | .inr r2, h, hxr =>
                      cases h
                      have hxr : r.2 = r1.2 := hxr
                      rw [hxr]
                      exact ⟨Nat.le_refl _, Nat.le_refl _⟩
                  have hini : ini = true → ∃ (v : Option Value) (σ' : am_S), r1 = (.inl v, σ') := fun hi => by
                    obtain ⟨o, σ1⟩ := r1
                    cases o with
                    | inl v => exact ⟨v, σ1, rfl⟩
                    | inr E =>
                      have h2' : (if ini = true then none else am_ct M pc ls E σ1 (am_hh M)) = some y := h2
                      rw [if_pos hi] at h2'
                      cases h2'
                  have e1 : σ.2.2.1 - k0 + (r1.2.2.2.1 - σ.2.2.1) = r1.2.2.2.1 - k0 := by omega
                  have e2 : σ.2.2.2 - s0 + (r1.2.2.2.2 - σ.2.2.2) = r1.2.2.2.2 - s0 := by omega
                  refine am_cont (hrun r1 _ _ hini (am_met hl ih hM' hlen hcat h1) (by rw [e1]; omega) (by rw [e2]; omega)) hS ?_ ?_
                  · intro v σ' hr1 H' locs' hP' hS'
                    subst hr1
                    rw [e1, e2]
                    cases h2
                    exact ih M (pc + 3) ls (v.toList ++ rest) σ' r h hM hX hG hP' hS' hL (Nat.le_trans hk a1) (Nat.le_trans hs a2) (am_hz hz hk q1) hR1 hR2
                  · intro E σ' hr1 hE H' locs' q ce hP' hS' hce hcv hcl
                    subst hr1
                    rw [e1, e2]
                    have h2' : am_ct M pc ls E σ' (am_hh M) = some y := by
                      have h3 : (if ini = true then none else am_ct M pc ls E σ' (am_hh M)) = some y := h2
                      by_cases hi : ini = true
                      · rw [if_pos hi] at h3; cases h3
                      · rw [if_neg hi] at h3; exact h3
                    refine am_ctS hX hG hE hL hce hcv hcl hS' (by have := hbd.1; show _ ≤ _; omega) (by have := hbd.2; show _ ≤ _; omega) hP' (am_hh M) [] rfl (fun z hz => by cases hz) y h2' ?_ ?_
                    · intro r2 hy
                      subst hy
                      cases h
                      rfl
                    · intro M2 pc2 ls2 st2 σ2 hy
                      subst hy
                      have hxr : σ2 = σ' := hxr
                      subst hxr
                      have hMM : M2 = M := by
                        have : ∀ (hs : List (Nat × Nat × Nat × Nat)) (x : am_C ⊕ am_R), am_ct M pc ls E σ2 hs = some x → ∀ c, x = .inl c → c.1 = M := by
                          intro hs
                          induction hs with
                          | nil => intro x hx c hc; cases hx; cases hc
                          | cons a t iht =>
                            intro x hx c hc
                            obtain ⟨a1, a2, a3, a4⟩ := a
                            unfold am_ct at hx
                            repeat' split at hx
                            all_goals first
                              | (cases hx; done)
                              | exact iht x hx c hc
                              | (cases hx; cases hc; rfl)
                        exact this _ _ h2' _ rfl
                      subst hMM
                      refine ⟨rfl, rfl, fun Ls' hL' => ?_⟩
                      exact ih M2 pc2 ls2 st2 σ2 r h hM hX hG hP' hS' hL' (Nat.le_trans hk a1) (Nat.le_trans hs a2) (am_hz hz hk q1) hR1 hR2
      · cases hstep
