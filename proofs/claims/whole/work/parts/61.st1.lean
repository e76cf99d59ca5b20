/-! the reference's calls -/
def MR (h0 : Nat → Option va_E) (m n : Nat) (σ : St) (h : Nat → Option va_E) (c : Int32) : Prop := ∃ aN aS aB aU aH aD aX aM aW aI aT aA aK aL aF aP : Nat → Int32, h = hp h0 m c n σ.2.2.2.2.1 σ.2.2.2.2.2.length aN aS aB aU aH aD aX aM aW aI aT aA aK aL aF aP ∧ σ.2.2.2.2.2 = nmof σ.2.2.2.2.2.length aF ∧ Rl 0 n σ.1 aN aS aB aU aH aD aX aM aW aI aT aA ∧ Rl 1 n σ.2.1 aN aS aB aU aH aD aX aM aW aI aT aA ∧ (∀ j, j < 2560 → aK j = σ.2.2.1 j) ∧ (∀ j, j < 600 → aL j = σ.2.2.2.1 j)
def OR (X : Option am_R) (z : Nat × Nat × Nat) (h0 : Nat → Option va_E) (m n : Nat) (kc : Nat → Int32) (o : (Int32 ⊕ Nat) × St) : Prop := ∃ (r : Int32) (h' : Nat → Option va_E) (c : Int32), X = some (.inl (some (.int r)), (h', z)) ∧ MR h0 m n o.2 h' c ∧ (∀ v, o.1 = .inl v → c = 0 ∧ r = v) ∧ (∀ E, o.1 = .inr E → c = kc E)
def ORv (X : Option am_R) (z : Nat × Nat × Nat) (h0 : Nat → Option va_E) (m n : Nat) (kc : Nat → Int32) (o : (Int32 ⊕ Nat) × St) : Prop := ∃ (h' : Nat → Option va_E) (c : Int32), X = some (.inl none, (h', z)) ∧ MR h0 m n o.2 h' c ∧ (∀ v, o.1 = .inl v → c = 0) ∧ (∀ E, o.1 = .inr E → c = kc E)
def k1 : Nat → Int32 := fun _ => 1
def k2 : Nat → Int32 := fun E => if E = 2 then 1 else 2
theorem or_v {X : Option am_R} {z : Nat × Nat × Nat} {h0 : Nat → Option va_E} {m n : Nat} {kc : Nat → Int32} {σ : St} {r : Int32} {h' : Nat → Option va_E} (e : X = some (.inl (some (.int r)), (h', z))) (hm : MR h0 m n σ h' 0) : OR X z h0 m n kc (.inl r, σ) := ⟨r, h', 0, e, hm, fun v hv => ⟨rfl, Sum.inl.inj hv⟩, fun E hE => (by cases hE)⟩
theorem or_x {X : Option am_R} {z : Nat × Nat × Nat} {h0 : Nat → Option va_E} {m n : Nat} {kc : Nat → Int32} {σ : St} {r : Int32} {E : Nat} {h' : Nat → Option va_E} (e : X = some (.inl (some (.int r)), (h', z))) (hm : MR h0 m n σ h' (kc E)) : OR X z h0 m n kc (.inr E, σ) := ⟨r, h', kc E, e, hm, fun v hv => (by cases hv), fun E' hE => by cases hE; rfl⟩
theorem nzK {n : Nat} {aK M : Nat → Int32} (hn : n ≤ 40) (hK : ∀ j, j < 2560 → aK j = M j) (hM : ∀ j, 64 * n ≤ j → M j = 0) : nzc aK 2560 = 0 ↔ nzc M (64 * n) = 0 := by
  rw [nzc_zero, nzc_zero]
  constructor
  · intro h j hj
    rw [← hK j (by omega)]
    exact h j (by omega)
  · intro h j hj
    rw [hK j hj]
    by_cases e : j < 64 * n
    · exact h j e
    · exact hM j (by omega)
section
variable {h0 h : Nat → Option va_E} {z : Nat × Nat × Nat} {m n : Nat} {c : Int32} {S Sv : Sh} {M J : Nat → Int32} {jl : Nat} {nm : List Int32}
theorem M_feed (d : MR h0 m n (S, Sv, M, J, jl, nm) h c) (i : SI n (S, Sv, M, J, jl, nm)) (x : Int32) : OR (cl 97 [.ref m, .int x] (h, z)) z h0 m n k1 (opFeed x (S, Sv, M, J, jl, nm)) := by
  have hl : nm.length ≤ 12 := i.2.2.2.1
  obtain ⟨aN, aS, aB, aU, aH, aD, aX, aM, aW, aI, aT, aA, aK, aL, aF, aP, rfl, e1, e2, e3, e4, e5⟩ := d
  have e1 : nm = nmof nm.length aF := e1
  have xf := X_feed (h0 := h0) (z := z) (m := m) (n := n) (jl := jl) (c := c) (aN := aN) (aS := aS) (aB := aB) (aU := aU) (aH := aH) (aD := aD) (aX := aX) (aM := aM) (aW := aW) (aI := aI) (aT := aT) (aA := aA) (aK := aK) (aL := aL) (aF := aF) (aP := aP) hl x
  unfold opFeed
  by_cases q : un x < 256
  · rw [if_pos q] at xf ⊢
    by_cases t : nm.length = 12
    · rw [if_pos t] at xf ⊢
      exact or_v xf ⟨aN, aS, aB, aU, aH, aD, aX, aM, aW, aI, aT, aA, aK, aL, aF, aP, rfl, e1, e2, e3, e4, e5⟩
    · rw [if_neg t] at xf ⊢
      refine or_v xf ⟨aN, aS, aB, aU, aH, aD, aX, aM, aW, aI, aT, aA, aK, aL, upd aF nm.length x, aP, ?_, ?_, e2, e3, e4, e5⟩
      · show _ = hp h0 m 0 n jl (nm ++ [x]).length _ _ _ _ _ _ _ _ _ _ _ _ _ _ _ _
        rw [List.length_append]; rfl
      · show nm ++ [x] = nmof (nm ++ [x]).length _
        refine nmof_eq rfl (fun k hk => ?_)
        rw [List.length_append, List.length_singleton] at hk
        by_cases e : k = nm.length
        · rw [e, upd_s, gD_r _ _ _ _ (Nat.le_refl _), Nat.sub_self]; rfl
        · rw [upd_n e, gD_l _ _ _ _ (by omega)]
          conv => lhs; rw [e1]
          exact nmof_get (by omega)
  · rw [if_neg q] at xf ⊢
    exact or_x xf ⟨aN, aS, aB, aU, aH, aD, aX, aM, aW, aI, aT, aA, aK, aL, aF, aP, rfl, e1, e2, e3, e4, e5⟩
end
