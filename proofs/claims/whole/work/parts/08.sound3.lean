/-! soundness, third part: the steps over the heap -/
def am_kG (q : (Nat × Nat) × Nat) : Bool := decide (q.2 < 8) && decide ((am_df.getD q.2 []).length = am_NN q.2) && (List.range (am_NN q.2)).all (fun j => decide (defaultValue (am_tyT q.2 j) = vp_V (am_df.getD q.2 []) j))
theorem am_kT_ok : ∀ q ∈ am_kT, am_kG q = true := by decide +kernel
theorem am_kT_in : ∀ q ∈ am_kT, Cond.classLink (am_on q.1.1) q.1.2 (am_CN q.2) ∈ am_T ∧ Cond.instantiable (am_CN q.2) (am_NN q.2) ∈ am_T ∧ Cond.initialized (am_CN q.2) ∈ am_T := by decide +kernel
theorem am_ac_in : ∀ ty : ArrayType, ty = .int ∨ ty = .boolean ∨ ty = .long → Cond.arrayClass (newarray.typeOf ty) ∈ am_T := by
  intro ty h
  rcases h with rfl | rfl | rfl <;> decide +kernel
def am_oW (q : (Nat × Nat) × (Nat × Nat × Nat)) : List Cond := match q.2.1 with
  | 5 => [.methodLink (am_on q.1.1) q.1.2 Lib.objectInit, .instanceMethod Lib.objectInit, .code Lib.objectInit ⟨#[0xb1]⟩ 1 none]
  | 6 => [.methodLink (am_on q.1.1) q.1.2 arraycopyName, .native arraycopyName, .static arraycopyName, .initialized "java/lang/System"]
  | 7 => [.methodLink (am_on q.1.1) q.1.2 Lib.Math.max.name, .static Lib.Math.max.name, .initialized "java/lang/Math", .code Lib.Math.max.name Lib.Math.max.code 2 (some .int)]
  | 8 => [.methodLink (am_on q.1.1) q.1.2 Lib.Math.min.name, .static Lib.Math.min.name, .initialized "java/lang/Math", .code Lib.Math.min.name Lib.Math.min.code 2 (some .int)]
  | _ => []
theorem am_oW_in : ∀ q ∈ am_cT, ∀ w ∈ am_oW q, w ∈ am_T := by decide +kernel
theorem am_fr_pos : ∀ M, M < 136 → 9 ≤ am_fr M := by decide +kernel
theorem am_cat {r : List Value} (h : r.length ≤ 4) : (r.map fun v => v.category).sum ≤ 8 := by
  have h1 : ∀ v : Value, v.category ≤ 2 := fun v => by cases v <;> simp [Value.category]
  have h2 : ∀ r : List Value, (r.map fun v => v.category).sum ≤ 2 * r.length := by
    intro r
    induction r with
    | nil => simp
    | cons a t ih =>
      simp only [List.map_cons, List.sum_cons, List.length_cons]
      have := h1 a
      omega
  have := h2 r
  omega
section
variable {p : Program} {l : Launch} {e : Env} {R : Room} {s : State} {m : MethodId} {args : Array Value} {below : List Frame} {meth : Method} {c : Code} {H : Heap} {locs : List Loc} {Q : State → Prop}
/-- after a store: the world again -/
theorem am_put {G : am_Ev} {σ : am_S} {a k k0 s0 pc' : Nat} {c1 : va_E} {ws : va_W} {Ls : Array Slot} {st' : List Value} {H1 : Heap} {locs1 : List Loc} (hS : va_S (am_A G.2.2.1) s.heap H locs) (hz : σ.2.1 ≠ 0 → σ.2.1 = s.heap.size + (σ.2.2.1 - k0)) (hZ : σ.2.1 ≠ 0 → H.size = σ.2.1)
    (hm : ∀ (c1 : va_E) (H1 : Heap), am_tk c1 → (σ.2.1 ≠ 0 → H1.size = σ.2.1) → va_P G.1 amCl (ws.set k (a, am_cv G.2.1 (some c1))) H1 → va_D (am_A G.2.2.1) (ws.set k (a, am_cv G.2.1 (some c1))) → am_P G (am_up σ.1 a c1, σ.2) H1) (ht : am_tk c1)
    (hP1 : va_P G.1 amCl (ws.set k (a, am_cv G.2.1 (some c1))) H1) (hD1 : va_D (am_A G.2.2.1) (ws.set k (a, am_cv G.2.1 (some c1)))) (hS1 : va_S (am_A G.2.2.1) H H1 locs1)
    (kk : ∀ (H' : Heap) (locs' : List Loc), am_P G (am_up σ.1 a c1, σ.2) H' → va_S (am_A G.2.2.1) s.heap H' locs' → W p l e R s m args below meth c H' locs' (σ.2.2.1 - k0) (σ.2.2.2 - s0) Q (F0 m pc' Ls st')) : W p l e R s m args below meth c H1 locs1 (σ.2.2.1 - k0) (σ.2.2.2 - s0) Q (F0 m pc' Ls st') :=
  am_sz (fun hle => kk H1 locs1 (hm c1 H1 ht (fun hn => by have := hz hn; have := hZ hn; have := hS1.1; omega) hP1 hD1) (am_S_tr hS hS1))
theorem am_nE {G : am_Ev} {σ : am_S} (h : am_P G σ H) : σ.2.1 ≠ 0 → H.size = σ.2.1 := by obtain ⟨_, _, _, _, h⟩ := h; exact h
theorem am_scr {G : am_Ev} {σ : am_S} {a n : Nat} {x : (Nat → Int32) ⊕ (Nat → Int64) ⊕ (Nat → UInt32) ⊕ (Nat → UInt64) ⊕ (Nat → Option Nat)} (h : am_P G σ H) (ha : σ.1 a = some (.inl (4, n, x))) : a = G.2.2.2.1 ∧ n = G.2.2.2.2.1 ∧ x = .inl G.2.2.2.2.2.1 := by
  obtain ⟨ad, _, _, hA, _⟩ := h
  rcases hA a _ ha with ⟨-, ht⟩ | ⟨h1, h2⟩
  · exact absurd (ht _ _ rfl) (Nat.lt_irrefl 4)
  · cases h2
    exact ⟨h1, rfl, rfl⟩
theorem am_tk_r (x : Nat × List Value) : am_tk (.inr x) := fun t y h => by cases h
theorem am_tk_l {t : Nat} {y : vp_A} (h : t < 4) : am_tk (.inl (t, y)) := fun t' y' h' => by cases h'; exact h
set_option maxHeartbeats 8000000 in
theorem am_s2 {G : am_Ev} {M pc len pc' k0 s0 : Nat} {i : Instr} {st st' : List Value} {σ σ' : am_S} {Ls : Array Slot} (hM : M < 136) (hX : am_X M p l R s m args meth c) (hG : am_G G s) (hd : decode (am_cod M) pc = .ok (i, len)) (h : am_i2 M i len pc st σ = some (pc', st', σ')) (hP : am_P G σ H) (hS : va_S (am_A G.2.2.1) s.heap H locs) (hL : Ls.size = am_nL M)
    (hk : k0 ≤ σ.2.2.1) (hs : s0 ≤ σ.2.2.2) (hz : σ.2.1 ≠ 0 → σ.2.1 = s.heap.size + (σ.2.2.1 - k0)) (hR1 : σ'.2.2.1 - k0 ≤ R.cells) (hR2 : σ'.2.2.2 - s0 ≤ R.slots)
    (kk : ∀ (H' : Heap) (locs' : List Loc), am_P G σ' H' → va_S (am_A G.2.2.1) s.heap H' locs' → W p l e R s m args below meth c H' locs' (σ'.2.2.1 - k0) (σ'.2.2.2 - s0) Q (F0 m pc' Ls st')) : W p l e R s m args below meth c H locs (σ.2.2.1 - k0) (σ.2.2.2 - s0) Q (F0 m pc Ls st) := by
  obtain ⟨hx, hb, -, hml, hown, hts, -, -, hin, hfr, hlo, -⟩ := hX
  obtain ⟨hK, hXs, hsb, hbs, -, -, hAO, -⟩ := hG
  have hZ := am_nE hP
  have hfp := am_fr_pos M hM
  obtain ⟨ws, hPw, hDw, hw⟩ := hP.at
  unfold am_i2 at h
  split at h
  · obtain ⟨rfl, g⟩ := am_ifS h
    clear h
    split at g
    · rename_i ci j _ _ a r hf
      split at g
      · rename_i cj fs ha
        obtain ⟨rfl, g2⟩ := am_ifS g
        split at g2
        · rename_i v hv
          cases g2
          obtain ⟨f1, f2, f3, f4, f5, f6, f7⟩ := am_fT_spec hf
          obtain ⟨k, hk1, -⟩ := hw a _ ha (am_tk_r _)
          exact va_get hx hb hts (am_in f1) hown hK hPw k hk1 (am_cl_at f1) j f2 (hts _ f7) (fun x h => h) hv hd (kk _ _ hP hS)
        · cases g2
      · cases g
    · cases g
  · obtain ⟨rfl, g⟩ := am_ifS h
    clear h
    split at g
    · rename_i ci j isI fin v a r hf
      split at g
      · rename_i cj fs ha
        obtain ⟨⟨rfl, hj, hfi, hft⟩, g2⟩ := am_ifS g
        cases g2
        obtain ⟨f1, f2, f3, f4, f5, f6, f7⟩ := am_fT_spec hf
        obtain ⟨k, hk1, hk2⟩ := hw a _ ha (am_tk_r _)
        obtain ⟨n1, n2⟩ := am_fitS hft f5 f6
        cases fin with
        | false => exact va_put hx hb hts (am_in f1) (am_tyT _) (am_ty_ok f1) (am_nm f1) hown hK hPw hDw (am_S_rf hS) k hk1 (am_cl_at f1) j f2 (hts _ f7) (fun x h => h) f3 (am_ty_ok f1 _ f2) n1 n2 hj hd (fun H1 locs1 q1 q2 q3 => am_put hS hz hZ hk2 (am_tk_r _) q1 q2 q3 kk)
        | true => exact va_putF hx hb hts (am_in f1) (am_tyT _) (am_ty_ok f1) (am_nm f1) hown hK hPw hDw (am_S_rf hS) k hk1 (am_cl_at f1) j f2 (hts _ f7) (fun x h => h) f3 (hin (hfi rfl).1) (by rw [f4, (hfi rfl).2]) (am_ty_ok f1 _ f2) n1 n2 hj hd (fun H1 locs1 q1 q2 q3 => am_put hS hz hZ hk2 (am_tk_r _) q1 q2 q3 kk)
      · cases g
    · cases g
  · obtain ⟨rfl, g⟩ := am_ifS h
    clear h
    split at g
    · rename_i j a r
      split at g
      · rename_i t n f ha
        obtain ⟨⟨ht, hj⟩, g2⟩ := am_ifS g
        cases g2
        rcases ht with rfl | rfl
        · obtain ⟨k, hk1, -⟩ := hw a _ ha (am_tk_l (by decide))
          exact va_iald hx hb hK hPw k 0 hk1 rfl (am_ixS hj) hd (kk _ _ hP hS)
        · obtain ⟨rfl, rfl, hxx⟩ := am_scr hP ha
          cases hxx
          exact va_sld hx hb hXs (Nat.lt_of_lt_of_le hsb hbs) (Nat.not_le.mpr hsb) hS (am_ixS hj) hd (kk _ _ hP hS)
      · cases g
    · cases g
  · obtain ⟨rfl, g⟩ := am_ifS h
    clear h
    split at g
    · rename_i j a r
      split at g
      · rename_i t n f ha
        obtain ⟨⟨rfl, hj⟩, g2⟩ := am_ifS g
        cases g2
        obtain ⟨k, hk1, -⟩ := hw a _ ha (am_tk_l (by decide))
        exact va_zald hx hb hK hPw k 1 hk1 rfl (am_ixS hj) hd (kk _ _ hP hS)
      · cases g
    · cases g
  · obtain ⟨rfl, g⟩ := am_ifS h
    clear h
    split at g
    · rename_i j a r
      split at g
      · rename_i t n f ha
        obtain ⟨⟨rfl, hj⟩, g2⟩ := am_ifS g
        cases g2
        obtain ⟨k, hk1, -⟩ := hw a _ ha (am_tk_l (by decide))
        exact va_lald hx hb hK hPw k 2 hk1 rfl (am_ixS hj) hd (kk _ _ hP hS)
      · cases g
    · cases g
  · obtain ⟨rfl, g⟩ := am_ifS h
    clear h
    split at g
    · rename_i j a r
      split at g
      · rename_i t n f ha
        obtain ⟨⟨rfl, hj⟩, g2⟩ := am_ifS g
        cases g2
        obtain ⟨k, hk1, -⟩ := hw a _ ha (am_tk_l (by decide))
        exact va_aldq hx hb hK hPw k 3 hk1 rfl (am_ixS hj) hd (kk _ _ hP hS)
      · cases g
    · cases g
  · obtain ⟨rfl, g⟩ := am_ifS h
    clear h
    split at g
    · rename_i x j a r
      split at g
      · rename_i t n f ha
        obtain ⟨⟨rfl, hj⟩, g2⟩ := am_ifS g
        cases g2
        obtain ⟨k, hk1, hk2⟩ := hw a _ ha (am_tk_l (by decide))
        exact va_iast hx hb hK hPw hDw (am_S_rf hS) k 0 hk1 rfl (am_ixS hj) hd (fun H1 locs1 q1 q2 q3 => am_put (c1 := .inl (0, _, .inl _)) hS hz hZ hk2 (am_tk_l (by decide)) q1 q2 q3 kk)
      · cases g
    · cases g
  · obtain ⟨rfl, g⟩ := am_ifS h
    clear h
    split at g
    · rename_i x j a r
      split at g
      · rename_i t n f ha
        obtain ⟨⟨rfl, hj⟩, g2⟩ := am_ifS g
        cases g2
        obtain ⟨k, hk1, hk2⟩ := hw a _ ha (am_tk_l (by decide))
        exact va_zast hx hb hK hPw hDw (am_S_rf hS) k 1 hk1 rfl (am_ixS hj) hd (fun H1 locs1 q1 q2 q3 => am_put (c1 := .inl (1, _, .inl _)) hS hz hZ hk2 (am_tk_l (by decide)) q1 q2 q3 kk)
      · cases g
    · cases g
  · obtain ⟨rfl, g⟩ := am_ifS h
    clear h
    split at g
    · rename_i x j a r
      split at g
      · rename_i t n f ha
        obtain ⟨⟨rfl, hj⟩, g2⟩ := am_ifS g
        cases g2
        obtain ⟨k, hk1, hk2⟩ := hw a _ ha (am_tk_l (by decide))
        exact va_last hx hb hK hPw hDw (am_S_rf hS) k 2 hk1 rfl (am_ixS hj) hd (fun H1 locs1 q1 q2 q3 => am_put (c1 := .inl (2, _, .inr (.inl _))) hS hz hZ hk2 (am_tk_l (by decide)) q1 q2 q3 kk)
      · cases g
    · cases g
  · obtain ⟨rfl, g⟩ := am_ifS h
    clear h
    split at g
    · rename_i x j a r
      split at g
      · rename_i t n f cj fs ha hv
        obtain ⟨⟨rfl, rfl, hj⟩, g2⟩ := am_ifS g
        cases g2
        obtain ⟨k, hk1, hk2⟩ := hw a _ ha (am_tk_l (by decide))
        obtain ⟨k', hk3, -⟩ := hw x _ hv (am_tk_r _)
        exact va_astq hx hb hK hPw hDw (am_S_rf hS) k 3 k' 3 hk1 rfl hk3 (am_cl_at (by decide)) (am_ixS hj) hd (fun H1 locs1 q1 q2 q3 => am_put (c1 := .inl (3, _, .inr (.inr (.inr (.inr _))))) hS hz hZ hk2 (am_tk_l (by decide)) q1 q2 q3 kk)
      · cases g
    · cases g
  · obtain ⟨rfl, g⟩ := am_ifS h
    clear h
    split at g
    · rename_i a r
      split at g
      · rename_i t x ha
        obtain ⟨ht, g2⟩ := am_ifS g
        cases g2
        by_cases h4 : t = 4
        · subst h4
          obtain ⟨n, y⟩ := x
          obtain ⟨rfl, rfl, rfl⟩ := am_scr hP ha
          exact va_slen hx hb hXs (Nat.lt_of_lt_of_le hsb hbs) (Nat.not_le.mpr hsb) hS hd (kk _ _ hP hS)
        · have h5 : t < 4 := Nat.lt_of_le_of_ne (Nat.le_of_lt_succ ht) h4
          obtain ⟨k, hk1, -⟩ := hw a _ ha (am_tk_l h5)
          obtain ⟨ty, hty⟩ : ∃ ty, (am_tys G.2.1)[t]? = some (G.2.1 t, ty) := by
            match t, h5 with
            | 0, _ => exact ⟨_, rfl⟩
            | 1, _ => exact ⟨_, rfl⟩
            | 2, _ => exact ⟨_, rfl⟩
            | 3, _ => exact ⟨_, rfl⟩
          exact va_alen hx hb hK hPw k t hk1 hty rfl hd (kk _ _ hP hS)
      · cases g
    · cases g
  · obtain ⟨rfl, g⟩ := am_ifS h
    clear h
    split at g
    · rename_i ci hci
      split at g
      · cases g
      · rename_i hn
        split at g
        · rename_i fs hfs
          cases g
          have a1 := am_kT_ok _ (am_lk hci)
          obtain ⟨b1, b2, b3⟩ := am_kT_in _ (am_lk hci)
          have hfs' : am_df.getD ci [] = fs := by rw [List.getD_eq_getElem?_getD, hfs]; rfl
          simp only [am_kG, Bool.and_eq_true, decide_eq_true_eq, List.all_eq_true, List.mem_range] at a1
          rw [hfs'] at a1
          obtain ⟨⟨c1, c2⟩, c3⟩ := a1
          have hKn := hK.1 ci _ (am_cl_at c1)
          have e1 : σ.2.2.1 - k0 + 1 = σ.2.2.1 + 1 - k0 := by omega
          have e2 : σ.2.2.2 - s0 + am_NN ci = σ.2.2.2 + fs.length - s0 := by omega
          refine W.newcK hx hb hown (hts _ b1) (hts _ b2) (hts _ b3) rfl hd (by rw [e1]; exact hR1) (by rw [e2]; exact hR2) hKn.2.1 rfl (fun H1 kC hkC f1 f2 f3 => ?_)
          rw [e1, e2]
          have e3 := hZ hn
          have hS1 : va_S (am_A G.2.2.1) s.heap H1 locs := ⟨Nat.le_trans hS.1 (by omega), fun x h1 h2 => (f3 x (Nat.lt_of_lt_of_le h1 hS.1)).trans (hS.2.1 x h1 h2), hS.2.2⟩
          have := kk H1 locs (hP.new hn (Nat.le_trans hbs hS.1) hsb (am_tk_r _) f2 f3 ⟨_, am_cl_at c1, (u_born (am_tyT ci) hts (am_in c1) hKn hkC f1 (am_ty_ok c1)).to (fun j hj => c3 j hj)⟩) hS1
          rw [← e3] at this
          exact this
        · cases g
    · cases g
  · obtain ⟨rfl, g⟩ := am_ifS h
    clear h
    split at g
    · rename_i n r
      split at g
      · cases g
      · rename_i hn
        cases g
        obtain ⟨hn1, hn2, hn3⟩ : σ.2.1 ≠ 0 ∧ ¬ n < 0 ∧ ¬ 100000 < n.toNatClampNeg := ⟨fun z => hn (Or.inl z), fun z => hn (Or.inr (Or.inl z)), fun z => hn (Or.inr (Or.inr z))⟩
        have e1 : σ.2.2.1 - k0 + 1 = σ.2.2.1 + 1 - k0 := by omega
        have e2 : σ.2.2.2 - s0 + n.toNatClampNeg = σ.2.2.2 + n.toNatClampNeg - s0 := by omega
        have e3 := hZ hn1
        refine va_newaK hx hb (hts _ (am_ac_in .int (Or.inl rfl))) rfl hd rfl hn2 rfl (by show n.toNatClampNeg * 4 ≤ _; omega) (by rw [e1]; exact hR1) (by rw [e2]; exact hR2) rfl (fun H1 cA f1 f2 f3 f4 f5 => ?_)
        rw [e1, e2]
        have hcA : cA = G.2.1 0 := Option.some.inj (f5.symm.trans (hK.2 0 _ rfl).2)
        subst hcA
        have hS1 : va_S (am_A G.2.2.1) s.heap H1 locs := ⟨Nat.le_trans hS.1 (by omega), fun x h1 h2 => (f3 x (Nat.lt_of_lt_of_le h1 hS.1)).trans (hS.2.1 x h1 h2), hS.2.2⟩
        have := kk H1 locs (hP.new hn1 (Nat.le_trans hbs hS.1) hsb (am_tk_l (by decide)) f2 f3 f1) hS1
        rw [← e3] at this
        exact this
    · rename_i n r
      split at g
      · cases g
      · rename_i hn
        cases g
        obtain ⟨hn1, hn2, hn3⟩ : σ.2.1 ≠ 0 ∧ ¬ n < 0 ∧ ¬ 100000 < n.toNatClampNeg := ⟨fun z => hn (Or.inl z), fun z => hn (Or.inr (Or.inl z)), fun z => hn (Or.inr (Or.inr z))⟩
        have e1 : σ.2.2.1 - k0 + 1 = σ.2.2.1 + 1 - k0 := by omega
        have e2 : σ.2.2.2 - s0 + n.toNatClampNeg = σ.2.2.2 + n.toNatClampNeg - s0 := by omega
        have e3 := hZ hn1
        refine va_newaK hx hb (hts _ (am_ac_in .boolean (Or.inr (Or.inl rfl)))) rfl hd rfl hn2 rfl (by show n.toNatClampNeg * 1 ≤ _; omega) (by rw [e1]; exact hR1) (by rw [e2]; exact hR2) rfl (fun H1 cA f1 f2 f3 f4 f5 => ?_)
        rw [e1, e2]
        have hcA : cA = G.2.1 1 := Option.some.inj (f5.symm.trans (hK.2 1 _ rfl).2)
        subst hcA
        have hS1 : va_S (am_A G.2.2.1) s.heap H1 locs := ⟨Nat.le_trans hS.1 (by omega), fun x h1 h2 => (f3 x (Nat.lt_of_lt_of_le h1 hS.1)).trans (hS.2.1 x h1 h2), hS.2.2⟩
        have := kk H1 locs (hP.new hn1 (Nat.le_trans hbs hS.1) hsb (am_tk_l (by decide)) f2 f3 f1) hS1
        rw [← e3] at this
        exact this
    · rename_i n r
      split at g
      · cases g
      · rename_i hn
        cases g
        obtain ⟨hn1, hn2, hn3⟩ : σ.2.1 ≠ 0 ∧ ¬ n < 0 ∧ ¬ 100000 < n.toNatClampNeg := ⟨fun z => hn (Or.inl z), fun z => hn (Or.inr (Or.inl z)), fun z => hn (Or.inr (Or.inr z))⟩
        have e1 : σ.2.2.1 - k0 + 1 = σ.2.2.1 + 1 - k0 := by omega
        have e2 : σ.2.2.2 - s0 + n.toNatClampNeg = σ.2.2.2 + n.toNatClampNeg - s0 := by omega
        have e3 := hZ hn1
        refine va_newaK hx hb (hts _ (am_ac_in .long (Or.inr (Or.inr rfl)))) rfl hd rfl hn2 rfl (by show n.toNatClampNeg * 8 ≤ _; omega) (by rw [e1]; exact hR1) (by rw [e2]; exact hR2) rfl (fun H1 cA f1 f2 f3 f4 f5 => ?_)
        rw [e1, e2]
        have hcA : cA = G.2.1 2 := Option.some.inj (f5.symm.trans (hK.2 2 _ rfl).2)
        subst hcA
        have hS1 : va_S (am_A G.2.2.1) s.heap H1 locs := ⟨Nat.le_trans hS.1 (by omega), fun x h1 h2 => (f3 x (Nat.lt_of_lt_of_le h1 hS.1)).trans (hS.2.1 x h1 h2), hS.2.2⟩
        have := kk H1 locs (hP.new hn1 (Nat.le_trans hbs hS.1) hsb (am_tk_l (by decide)) f2 f3 f1) hS1
        rw [← e3] at this
        exact this
    · cases g
  · obtain ⟨rfl, g⟩ := am_ifS h
    clear h
    split at g
    · rename_i n r hci
      split at g
      · cases g
      · rename_i hn
        cases g
        obtain ⟨hn1, hn2, hn3⟩ : σ.2.1 ≠ 0 ∧ ¬ n < 0 ∧ ¬ 100000 < n.toNatClampNeg := ⟨fun z => hn (Or.inl z), fun z => hn (Or.inr (Or.inl z)), fun z => hn (Or.inr (Or.inr z))⟩
        have e1 : σ.2.2.1 - k0 + 1 = σ.2.2.1 + 1 - k0 := by omega
        have e2 : σ.2.2.2 - s0 + n.toNatClampNeg = σ.2.2.2 + n.toNatClampNeg - s0 := by omega
        have e3 := hZ hn1
        obtain ⟨b1, -, -⟩ := am_kT_in _ (am_lk hci)
        refine W.anew hx hb hown (hts _ b1) (va_AO.use hAO) rfl hd rfl hn2 (by omega) (by rw [e1]; exact hR1) (by rw [e2]; exact hR2) (fun cA kA comp f1 f2 f3 f4 => ?_)
        generalize hH1 : H.push ({ cls := cA, slots := Array.replicate n.toNatClampNeg .null, vm := .none } : Cell) = H1
        have z1 : H1.size = H.size + 1 := by rw [← hH1, Array.size_push]
        have g1 : H1[H.size]? = some (arrV cA n.toNatClampNeg (fun _ => .null)) := by rw [← hH1, Array.getElem?_push_size, ← arrV_new]
        have o1 : ∀ q : Nat, q < H.size → H1[q]? = H[q]? := fun q hq => by rw [← hH1, Array.getElem?_push, if_neg (Nat.ne_of_lt hq)]
        rw [e1, e2]
        obtain ⟨kA', comp', -, -, -, f5⟩ := (hK.2 3 _ rfl).2
        have hcA : cA = G.2.1 3 := Option.some.inj (f1.symm.trans f5)
        subst hcA
        have hS1 : va_S (am_A G.2.2.1) s.heap H1 locs := ⟨Nat.le_trans hS.1 (by omega), fun x h1 h2 => (o1 x (Nat.lt_of_lt_of_le h1 hS.1)).trans (hS.2.1 x h1 h2), hS.2.2⟩
        have := kk H1 locs (hP.new hn1 (Nat.le_trans hbs hS.1) hsb (am_tk_l (by decide)) z1 o1 g1) hS1
        rw [← e3] at this
        exact this
    · cases g
  · obtain ⟨rfl, g⟩ := am_ifS h
    clear h
    split at g
    · rename_i b r hci
      obtain ⟨hr, g2⟩ := am_ifS g
      cases g2
      have hw5 := am_oW_in _ (am_lk hci)
      have hc := am_cat hr
      exact W.objInit hx hb hown (hts _ (hw5 _ (by simp [am_oW]))) (hts _ (hw5 _ (by simp [am_oW]))) (hts _ (hw5 _ (by simp [am_oW]))) rfl (hL.trans hml.symm) rfl hd (by omega) (by show 2 * 0 + _ + 12 ≤ _; omega) (kk _ _ hP hS)
    · cases g
  · obtain ⟨rfl, g⟩ := am_ifS h
    clear h
    split at g
    · rename_i n dp a sp a0 r hci
      split at g
      · rename_i t0 n0 f t1 n1 f1 ha0 ha1
        obtain ⟨⟨rfl, rfl, hr, h1, h2, h3, h4, h5⟩, g2⟩ := am_ifS g
        cases g2
        have hw5 := am_oW_in _ (am_lk hci)
        have hc := am_cat hr
        have hnw : nativeFrameWords "java/lang/System" "arraycopy" 5 ≤ 100 := by decide
        obtain ⟨k, hk1, -⟩ := hw a0 _ ha0 (am_tk_l (by decide))
        obtain ⟨k', hk3, hk2⟩ := hw a _ ha1 (am_tk_l (by decide))
        exact va_copyi hx hb (by rw [hL]; exact hml) hown (hts _ (hw5 _ (by simp [am_oW]))) (hts _ (hw5 _ (by simp [am_oW]))) (hts _ (hw5 _ (by simp [am_oW]))) (hts _ (hw5 _ (by simp [am_oW]))) hK hPw hDw (am_S_rf hS) k k' 0 0 hk1 hk3 rfl rfl rfl h1 h2 h3 h4 h5 (fun i _ => rfl) (by omega) (by omega) hd
          (fun H1 locs1 q1 q2 q3 => am_put (c1 := .inl (0, _, .inl _)) hS hz hZ hk2 (am_tk_l (by decide)) q1 q2 q3 kk)
      · cases g
    · rename_i y x r hci
      obtain ⟨hr, g2⟩ := am_ifS g
      cases g2
      have hw5 := am_oW_in _ (am_lk hci)
      have hc := am_cat hr
      exact va_mmax hx hb (by rw [hL]; exact hml) hown (hts _ (hw5 _ (by simp [am_oW]))) (hts _ (hw5 _ (by simp [am_oW]))) (hts _ (hw5 _ (by simp [am_oW]))) (hts _ (hw5 _ (by simp [am_oW]))) (by omega) (by omega) hR1 hR2 hd (kk _ _ hP hS)
    · rename_i y x r hci
      obtain ⟨hr, g2⟩ := am_ifS g
      cases g2
      have hw5 := am_oW_in _ (am_lk hci)
      have hc := am_cat hr
      exact va_mmin hx hb (by rw [hL]; exact hml) hown (hts _ (hw5 _ (by simp [am_oW]))) (hts _ (hw5 _ (by simp [am_oW]))) (hts _ (hw5 _ (by simp [am_oW]))) (hts _ (hw5 _ (by simp [am_oW]))) (by omega) (by omega) hR1 hR2 hd (kk _ _ hP hS)
    · cases g
  · cases h
end
