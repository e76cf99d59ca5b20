/-! soundness, third part: the steps over the heap -/
def am_kG (q : (Nat × Nat) × Nat) : Bool := decide (q.2 < 8) && decide ((am_df.getD q.2 []).length = am_NN q.2) && (List.range (am_NN q.2)).all (fun j => decide (defaultValue (am_tyT q.2 j) = vp_V (am_df.getD q.2 []) j))
theorem am_kT_ok : ∀ q ∈ am_kT, am_kG q = true := by decide +kernel
theorem am_kT_in : ∀ q ∈ am_kT, Cond.classLink (am_on q.1.1) q.1.2 (am_CN q.2) ∈ am_T ∧ Cond.instantiable (am_CN q.2) (am_NN q.2) ∈ am_T ∧ Cond.initialized (am_CN q.2) ∈ am_T := by decide +kernel
theorem am_ac_in : ∀ ty : ArrayType, ty = .int ∨ ty = .boolean ∨ ty = .long → Cond.arrayClass (newarray.typeOf ty) ∈ am_T := by
  intro ty h
  rcases h with rfl | rfl | rfl <;> decide +kernel
def am_oW (q : (Nat × Nat) × (Nat × Nat × Nat)) : List Cond := match q.2.1 with
  | 5 => [.methodLink (am_on q.1.1) q.1.2 Lib.objectInit, .instanceMethod Lib.objectInit, .code Lib.objectInit ⟨#[0xb1]⟩ 1 none]
  | 6 => [.methodLink (am_on q.1.1) q.1.2 arraycopyName, .native arraycopyName, .static arraycopyName, .initialized "java/lang/System"]
  | _ => []
theorem am_oW_in : ∀ q ∈ am_cT, ∀ w ∈ am_oW q, w ∈ am_T := by decide +kernel
theorem am_fr_pos : ∀ M, M < 138 → 9 ≤ am_fr M := by decide +kernel
theorem am_cat {r : List Value} (h : r.length ≤ 4) : (r.map fun v => v.category).sum ≤ 8 := by
  have h1 : ∀ v : Value, v.category ≤ 2 := fun v => by cases v <;> simp [Value.category]
  have h2 : ∀ r : List Value, (r.map fun v => v.category).sum ≤ 2 * r.length := by
    intro r
    induction r with
    | nil => simp
    | cons a t ih =>
      simp only [List.map_cons, List.sum_cons, List.length_cons]
      have := h1 a
      omega
  have := h2 r
  omega
section
variable {p : Program} {l : Launch} {e : Env} {R : Room} {s : State} {m : MethodId} {args : Array Value} {below : List Frame} {meth : Method} {c : Code} {H : Heap} {locs : List Loc} {Q : State → Prop}
/-- after a store: the world again -/
theorem am_put {G : am_Ev} {σ : am_S} {a k k0 s0 pc' : Nat} {c1 : va_E} {ws : va_W} {Ls : Array Slot} {st' : List Value} {H1 : Heap} {locs1 : List Loc} (hS : va_S (am_A G.2.2.1) s.heap H locs) (hz : σ.2.1 ≠ 0 → σ.2.1 = s.heap.size + (σ.2.2.1 - k0)) (hZ : σ.2.1 ≠ 0 → H.size = σ.2.1)
    (hm : ∀ (c1 : va_E) (H1 : Heap), am_tk c1 → (σ.2.1 ≠ 0 → H1.size = σ.2.1) → va_P G.1 amCl (ws.set k (a, am_cv G.2.1 (some c1))) H1 → va_D (am_A G.2.2.1) (ws.set k (a, am_cv G.2.1 (some c1))) → am_P G (am_up σ.1 a c1, σ.2) H1) (ht : am_tk c1)
    (hP1 : va_P G.1 amCl (ws.set k (a, am_cv G.2.1 (some c1))) H1) (hD1 : va_D (am_A G.2.2.1) (ws.set k (a, am_cv G.2.1 (some c1)))) (hS1 : va_S (am_A G.2.2.1) H H1 locs1)
    (kk : ∀ (H' : Heap) (locs' : List Loc), am_P G (am_up σ.1 a c1, σ.2) H' → va_S (am_A G.2.2.1) s.heap H' locs' → W p l e R s m args below meth c H' locs' (σ.2.2.1 - k0) (σ.2.2.2 - s0) Q (F0 m pc' Ls st')) : W p l e R s m args below meth c H1 locs1 (σ.2.2.1 - k0) (σ.2.2.2 - s0) Q (F0 m pc' Ls st') :=
  am_sz (fun hle => kk H1 locs1 (hm c1 H1 ht (fun hn => by have := hz hn; have := hZ hn; have := hS1.1; omega) hP1 hD1) (am_S_tr hS hS1))
theorem am_nE {G : am_Ev} {σ : am_S} (h : am_P G σ H) : σ.2.1 ≠ 0 → H.size = σ.2.1 := by obtain ⟨_, _, _, _, h⟩ := h; exact h
theorem am_scr {G : am_Ev} {σ : am_S} {a n : Nat} {x : (Nat → Int32) ⊕ (Nat → Int64) ⊕ (Nat → UInt32) ⊕ (Nat → UInt64) ⊕ (Nat → Option Nat)} (h : am_P G σ H) (ha : σ.1 a = some (.inl (4, n, x))) : a = G.2.2.2.1 ∧ n = G.2.2.2.2.1 ∧ x = .inl G.2.2.2.2.2.1 := by
  obtain ⟨ad, _, _, hA, _⟩ := h
  rcases hA a _ ha with ⟨-, ht⟩ | ⟨h1, h2⟩
  · exact absurd (ht _ _ rfl) (Nat.lt_irrefl 4)
  · cases h2
    exact ⟨h1, rfl, rfl⟩
theorem am_tk_r (x : Nat × List Value) : am_tk (.inr x) := fun t y h => by cases h
theorem am_tk_l {t : Nat} {y : vp_A} (h : t < 4) : am_tk (.inl (t, y)) := fun t' y' h' => by cases h'; exact h
set_option maxHeartbeats 8000000 in
theorem am_s2 {G : am_Ev} {M pc len pc' k0 s0 : Nat} {i : Instr} {st st' : List Value} {σ σ' : am_S} {Ls : Array Slot} (hM : M < 138) (hX : am_X M p l R s m args meth c) (hG : am_G G s) (hd : decode (am_cod M) pc = .ok (i, len)) (h : am_i2 M i len pc st σ = some (pc', st', σ')) (hP : am_P G σ H) (hS : va_S (am_A G.2.2.1) s.heap H locs) (hL : Ls.size = am_nL M)
    (hk : k0 ≤ σ.2.2.1) (hs : s0 ≤ σ.2.2.2) (hz : σ.2.1 ≠ 0 → σ.2.1 = s.heap.size + (σ.2.2.1 - k0)) (hR1 : σ'.2.2.1 - k0 ≤ R.cells) (hR2 : σ'.2.2.2 - s0 ≤ R.slots)
    (kk : ∀ (H' : Heap) (locs' : List Loc), am_P G σ' H' → va_S (am_A G.2.2.1) s.heap H' locs' → W p l e R s m args below meth c H' locs' (σ'.2.2.1 - k0) (σ'.2.2.2 - s0) Q (F0 m pc' Ls st')) : W p l e R s m args below meth c H locs (σ.2.2.1 - k0) (σ.2.2.2 - s0) Q (F0 m pc Ls st) := by
  obtain ⟨hx, hb, -, hml, hown, hts, -, -, hin, hfr, hlo, -⟩ := hX
  obtain ⟨hK, hXs, hsb, hbs, -, -, hAO, -⟩ := hG
  have hZ := am_nE hP
  have hfp := am_fr_pos M hM
  obtain ⟨ws, hPw, hDw, hw⟩ := hP.at
  unfold am_i2 at h
  split at h
  · obtain ⟨rfl, g⟩ := am_ifS h
    clear h
    split at g
    · rename_i ci j _ _ a r hf
      split at g
      · rename_i cj fs ha
        obtain ⟨rfl, g2⟩ := am_ifS g
        split at g2
        · rename_i v hv
          cases g2
          obtain ⟨f1, f2, f3, f4, f5, f6, f7⟩ := am_fT_spec hf
          obtain ⟨k, hk1, -⟩ := hw a _ ha (am_tk_r _)
          exact va_get hx hb hts (am_in f1) hown hK hPw k hk1 (am_cl_at f1) j f2 (hts _ f7) (fun x h => h) hv hd (kk _ _ hP hS)
        · cases g2
      · cases g
    · cases g
  · obtain ⟨rfl, g⟩ := am_ifS h
    clear h
    split at g
    · rename_i ci j isI fin v a r hf
      split at g
      · rename_i cj fs ha
        obtain ⟨⟨rfl, hj, hfi, hft⟩, g2⟩ := am_ifS g
        cases g2
        obtain ⟨f1, f2, f3, f4, f5, f6, f7⟩ := am_fT_spec hf
        obtain ⟨k, hk1, hk2⟩ := hw a _ ha (am_tk_r _)
        obtain ⟨n1, n2⟩ := am_fitS hft f5 f6
        cases fin with
        | false => exact va_put hx hb hts (am_in f1) (am_tyT _) (am_ty_ok f1) (am_nm f1) hown hK hPw hDw (am_S_rf hS) k hk1 (am_cl_at f1) j f2 (hts _ f7) (fun x h => h) f3 (am_ty_ok f1 _ f2) n1 n2 hj hd (fun H1 locs1 q1 q2 q3 => am_put hS hz hZ hk2 (am_tk_r _) q1 q2 q3 kk)
        | true => exact va_putF hx hb hts (am_in f1) (am_tyT _) (am_ty_ok f1) (am_nm f1) hown hK hPw hDw (am_S_rf hS) k hk1 (am_cl_at f1) j f2 (hts _ f7) (fun x h => h) f3 (hin (hfi rfl).1) (by rw [f4, (hfi rfl).2]) (am_ty_ok f1 _ f2) n1 n2 hj hd (fun H1 locs1 q1 q2 q3 => am_put hS hz hZ hk2 (am_tk_r _) q1 q2 q3 kk)
      · cases g
    · cases g
  · obtain ⟨rfl, g⟩ := am_ifS h
    clear h
    split at g
    · rename_i j a r
      split at g
      · rename_i t n f ha
        obtain ⟨⟨ht, hj⟩, g2⟩ := am_ifS g
        cases g2
        rcases ht with rfl | rfl
        · obtain ⟨k, hk1, -⟩ := hw a _ ha (am_tk_l (by decide))
          exact va_iald hx hb hK hPw k 0 hk1 rfl (am_ixS hj) hd (kk _ _ hP hS)
        · obtain ⟨rfl, rfl, hxx⟩ := am_scr hP ha
          cases hxx
          exact va_sld hx hb hXs (Nat.lt_of_lt_of_le hsb hbs) (Nat.not_le.mpr hsb) hS (am_ixS hj) hd (kk _ _ hP hS)
      · cases g
    · cases g
  · obtain ⟨rfl, g⟩ := am_ifS h
    clear h
    split at g
    · rename_i j a r
      split at g
      · rename_i t n f ha
        obtain ⟨⟨rfl, hj⟩, g2⟩ := am_ifS g
        cases g2
        obtain ⟨k, hk1, -⟩ := hw a _ ha (am_tk_l (by decide))
        exact va_zald hx hb hK hPw k 1 hk1 rfl (am_ixS hj) hd (kk _ _ hP hS)
      · cases g
    · cases g
  · obtain ⟨rfl, g⟩ := am_ifS h
    clear h
    split at g
    · rename_i j a r
      split at g
      · rename_i t n f ha
        obtain ⟨⟨rfl, hj⟩, g2⟩ := am_ifS g
        cases g2
        obtain ⟨k, hk1, -⟩ := hw a _ ha (am_tk_l (by decide))
        exact va_lald hx hb hK hPw k 2 hk1 rfl (am_ixS hj) hd (kk _ _ hP hS)
      · cases g
    · cases g
  · obtain ⟨rfl, g⟩ := am_ifS h
    clear h
    split at g
    · rename_i j a r
      split at g
      · rename_i t n f ha
        obtain ⟨⟨rfl, hj⟩, g2⟩ := am_ifS g
        cases g2
        obtain ⟨k, hk1, -⟩ := hw a _ ha (am_tk_l (by decide))
        exact va_aldq hx hb hK hPw k 3 hk1 rfl (am_ixS hj) hd (kk _ _ hP hS)
      · cases g
    · cases g
  · obtain ⟨rfl, g⟩ := am_ifS h
    clear h
    split at g
    · rename_i x j a r
      split at g
      · rename_i t n f ha
        obtain ⟨⟨rfl, hj⟩, g2⟩ := am_ifS g
        cases g2
        obtain ⟨k, hk1, hk2⟩ := hw a _ ha (am_tk_l (by decide))
        exact va_iast hx hb hK hPw hDw (am_S_rf hS) k 0 hk1 rfl (am_ixS hj) hd (fun H1 locs1 q1 q2 q3 => am_put (c1 := .inl (0, _, .inl _)) hS hz hZ hk2 (am_tk_l (by decide)) q1 q2 q3 kk)
      · cases g
    · cases g
  · obtain ⟨rfl, g⟩ := am_ifS h
    clear h
    split at g
    · rename_i x j a r
      split at g
      · rename_i t n f ha
        obtain ⟨⟨rfl, hj⟩, g2⟩ := am_ifS g
        cases g2
        obtain ⟨k, hk1, hk2⟩ := hw a _ ha (am_tk_l (by decide))
        exact va_zast hx hb hK hPw hDw (am_S_rf hS) k 1 hk1 rfl (am_ixS hj) hd (fun H1 locs1 q1 q2 q3 => am_put (c1 := .inl (1, _, .inl _)) hS hz hZ hk2 (am_tk_l (by decide)) q1 q2 q3 kk)
      · cases g
    · cases g
  · obtain ⟨rfl, g⟩ := am_ifS h
    clear h
    split at g
    · rename_i x j a r
      split at g
      · rename_i t n f ha
        obtain ⟨⟨rfl, hj⟩, g2⟩ := am_ifS g
        cases g2
        obtain ⟨k, hk1, hk2⟩ := hw a _ ha (am_tk_l (by decide))
        exact va_last hx hb hK hPw hDw (am_S_rf hS) k 2 hk1 rfl (am_ixS hj) hd (fun H1 locs1 q1 q2 q3 => am_put (c1 := .inl (2, _, .inr (.inl _))) hS hz hZ hk2 (am_tk_l (by decide)) q1 q2 q3 kk)
      · cases g
    · cases g
  · obtain ⟨rfl, g⟩ := am_ifS h
    clear h
    split at g
    · rename_i x j a r
      split at g
      · rename_i t n f cj fs ha hv
        obtain ⟨⟨rfl, rfl, hj⟩, g2⟩ := am_ifS g
        cases g2
        obtain ⟨k, hk1, hk2⟩ := hw a _ ha (am_tk_l (by decide))
        obtain ⟨k', hk3, -⟩ := hw x _ hv (am_tk_r _)
        exact va_astq hx hb hK hPw hDw (am_S_rf hS) k 3 k' 3 hk1 rfl hk3 (am_cl_at (by decide)) (am_ixS hj) hd (fun H1 locs1 q1 q2 q3 => am_put (c1 := .inl (3, _, .inr (.inr (.inr (.inr _))))) hS hz hZ hk2 (am_tk_l (by decide)) q1 q2 q3 kk)
      · cases g
    · cases g
  · obtain ⟨rfl, g⟩ := am_ifS h
    clear h
    split at g
    · rename_i a r
      split at g
      · rename_i t x ha
        obtain ⟨ht, g2⟩ := am_ifS g
        cases g2
        by_cases h4 : t = 4
        · subst h4
          obtain ⟨n, y⟩ := x
          obtain ⟨rfl, rfl, rfl⟩ := am_scr hP ha
          exact va_slen hx hb hXs (Nat.lt_of_lt_of_le hsb hbs) (Nat.not_le.mpr hsb) hS hd (kk _ _ hP hS)
        · have h5 : t < 4 := Nat.lt_of_le_of_ne (Nat.le_of_lt_succ ht) h4
          obtain ⟨k, hk1, -⟩ := hw a _ ha (am_tk_l h5)
          obtain ⟨ty, hty⟩ : ∃ ty, (am_tys G.2.1)[t]? = some (G.2.1 t, ty) := by
            match t, h5 with
            | 0, _ => exact ⟨_, rfl⟩
            | 1, _ => exact ⟨_, rfl⟩
            | 2, _ => exact ⟨_, rfl⟩
            | 3, _ => exact ⟨_, rfl⟩
          exact va_alen hx hb hK hPw k t hk1 hty rfl hd (kk _ _ hP hS)
      · cases g
    · cases g
  · sorry
  · sorry
  · sorry
  · sorry
  · sorry
  · cases h
end
