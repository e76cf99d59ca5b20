/-! the law: frames, the single calls -/
theorem CI.fr {h h' : Nat → Option va_E} {x n : Nat} {σ : St} (c : CI h x n σ) (e : ∀ a, x ≤ a → a < x + 27 + 6 * n → h' a = h a) : CI h' x n σ := by
  obtain ⟨c1, c2, ⟨f3, c3, c3'⟩, ⟨l4, f4, c4⟩, c5, c6, c7⟩ := c
  exact ⟨(e _ (by omega) (by omega)).trans c1, c2.fr (fun y _ _ => e y (by omega) (by omega)), ⟨f3, ⟨(e _ (by omega) (by omega)).trans c3.1, (e _ (by omega) (by omega)).trans c3.2.1, (e _ (by omega) (by omega)).trans c3.2.2.1, c3.2.2.2⟩, c3'⟩, ⟨l4, f4, ⟨(e _ (by omega) (by omega)).trans c4.1, (e _ (by omega) (by omega)).trans c4.2.1, (e _ (by omega) (by omega)).trans c4.2.2.1, c4.2.2.2⟩⟩, c5.fr (fun y _ _ => e y (by omega) (by omega)), c6.fr (fun y _ _ => e y (by omega) (by omega)), c7.fr (fun y _ _ => e y (by omega) (by omega))⟩
section
variable {h0 h1 h h' : Nat → Option va_E} {z : Nat × Nat × Nat} {m n jl fd : Nat} {c : Int32} {aN aS aB aU aH aD aX aM aW aI aT aA aK aL aF aP : Nat → Int32} {σ : St}
theorem hp_in {a : Nat} (ha : m ≤ a ∧ a < m + 17) : (hp h0 m c n jl fd aN aS aB aU aH aD aX aM aW aI aT aA aK aL aF aP) a = (hp h1 m c n jl fd aN aS aB aU aH aD aX aM aW aI aT aA aK aL aF aP) a := by
  have hc : a = m ∨ a = m + 1 ∨ a = m + 2 ∨ a = m + 3 ∨ a = m + 4 ∨ a = m + 5 ∨ a = m + 6 ∨ a = m + 7 ∨ a = m + 8 ∨ a = m + 9 ∨ a = m + 10 ∨ a = m + 11 ∨ a = m + 12 ∨ a = m + 13 ∨ a = m + 14 ∨ a = m + 15 ∨ a = m + 16 := by omega
  rcases hc with rfl | rfl | rfl | rfl | rfl | rfl | rfl | rfl | rfl | rfl | rfl | rfl | rfl | rfl | rfl | rfl | rfl
  · rw [hp_o, hp_o]
  · rw [hp_1, hp_1]
  · rw [hp_2, hp_2]
  · rw [hp_3, hp_3]
  · rw [hp_4, hp_4]
  · rw [hp_5, hp_5]
  · rw [hp_6, hp_6]
  · rw [hp_7, hp_7]
  · rw [hp_8, hp_8]
  · rw [hp_9, hp_9]
  · rw [hp_10, hp_10]
  · rw [hp_11, hp_11]
  · rw [hp_12, hp_12]
  · rw [hp_13, hp_13]
  · rw [hp_14, hp_14]
  · rw [hp_15, hp_15]
  · rw [hp_16, hp_16]
theorem MR.fr (d : MR h0 m n σ h c) (e : ∀ a, m ≤ a → a < m + 17 → h' a = h a) : MR h' m n σ h' c := by
  obtain ⟨aN, aS, aB, aU, aH, aD, aX, aM, aW, aI, aT, aA, aK, aL, aF, aP, rfl, d2⟩ := d
  refine ⟨aN, aS, aB, aU, aH, aD, aX, aM, aW, aI, aT, aA, aK, aL, aF, aP, ?_, d2⟩
  funext a
  by_cases ha : m ≤ a ∧ a < m + 17
  · rw [e a ha.1 ha.2]
    exact hp_in ha
  · rw [hp_out (by omega)]
theorem MR.out (d : MR h0 m n σ h c) {a : Nat} (ha : a < m ∨ m + 17 ≤ a) : h a = h0 a := by
  obtain ⟨aN, aS, aB, aU, aH, aD, aX, aM, aW, aI, aT, aA, aK, aL, aF, aP, rfl, d2⟩ := d
  exact hp_out ha
theorem MR.obj (d : MR h0 m n σ h c) : ∃ fs, h m = some (.inr (7, fs)) := by
  obtain ⟨aN, aS, aB, aU, aH, aD, aX, aM, aW, aI, aT, aA, aK, aL, aF, aP, rfl, d2⟩ := d
  exact ⟨_, hp_o⟩
theorem MR.thrown (d : MR h0 m n σ h c) : cl 96 [.ref m] (h, z) = some (.inl (some (.int c)), (h, z)) := by
  obtain ⟨aN, aS, aB, aU, aH, aD, aX, aM, aW, aI, aT, aA, aK, aL, aF, aP, rfl, d2⟩ := d
  exact X_thrown
end
theorem al4 {n k : Nat} {f : Nat → Int32} {K : Int32 → Option am_R} (h : k < n) (hn : n ≤ 100000) : am_al0 (some (.inl (4, n, .inl f))) (nI k) K = K (f k) := by
  unfold am_al0
  dsimp only
  rw [if_pos ⟨Or.inr rfl, ix_nI h hn⟩, cl_nI (by omega)]
theorem ln4 {n : Nat} {f : Nat → Int32} {K : Nat → Option am_R} : am_ln (some (.inl (4, n, .inl f))) K = K n := rfl
theorem ll_0 {f : Nat → Int64} {K : Int64 → Option am_R} : am_ll (some (.inl (2, 1, .inr (.inl f)))) 0 K = K (f 0) := by
  unfold am_ll
  dsimp only
  rw [if_pos ⟨rfl, (by decide : (0 : Int) ≤ (0 : Int32).toInt), (by decide : (0 : Int32).toInt < ((1 : Nat) : Int))⟩]
  rfl
theorem ls_0 {f : Nat → Int64} {K : Nat → (Nat → Int64) → Option am_R} : am_ls (some (.inl (2, 1, .inr (.inl f)))) 0 K = K 1 f := by
  unfold am_ls
  dsimp only
  rw [if_pos ⟨rfl, (by decide : (0 : Int) ≤ (0 : Int32).toInt), (by decide : (0 : Int32).toInt < ((1 : Nat) : Int))⟩]
theorem bh_v {v : Option Value} {σ : am_S} {K : Option Value → am_S → Option am_R} {KH : Nat → am_S → Option am_R} : am_bh (some (.inl v, σ)) K KH = K v σ := rfl
theorem bh_x {E : Nat} {σ : am_S} {K : Option Value → am_S → Option am_R} {KH : Nat → am_S → Option am_R} : am_bh (some (.inr E, σ)) K KH = KH E σ := rfl
theorem lg_eq (x : Int64) : lg_cmp x x = 0 := by
  unfold lg_cmp
  rw [if_neg (by simp), if_pos rfl]
section
variable {M pc a b h t E : Nat} {ls : List Value} {σ : am_S} {r : List (Nat × Nat × Nat × Nat)}
theorem ct_n {k : Fin 4} (hp0 : a ≤ pc ∧ pc < b) (hx : am_xT.lookup (am_own M, t) = some E) (hd : decode (am_cod M) h = .ok (.astore_n k, 1)) (hk : k.val < ls.length) : am_ct M pc ls E σ ((a, b, h, t) :: r) = some (.inl (M, h + 1, ls.set k.val am_jk, [], σ)) := by
  rw [am_ct, if_pos hp0, hx]
  dsimp only
  rw [if_pos rfl, hd]
  exact if_pos hk
theorem ct_w {k : Nat} (hp0 : a ≤ pc ∧ pc < b) (hx : am_xT.lookup (am_own M, t) = some E) (hd : decode (am_cod M) h = .ok (.astore k, 2)) (hk : k < ls.length) : am_ct M pc ls E σ ((a, b, h, t) :: r) = some (.inl (M, h + 2, ls.set k am_jk, [], σ)) := by
  rw [am_ct, if_pos hp0, hx]
  dsimp only
  rw [if_pos rfl, hd]
  exact if_pos hk
theorem ct_s {E' : Nat} (hp0 : a ≤ pc ∧ pc < b) (hx : am_xT.lookup (am_own M, t) = some E') (hE : E' ≠ E) : am_ct M pc ls E σ ((a, b, h, t) :: r) = am_ct M pc ls E σ r := by
  rw [am_ct, if_pos hp0, hx]
  exact if_neg hE
theorem th_of {p : Nat} {l : List Value} (hc : am_ct M pc ls E σ (am_hh M) = some (.inl (M, p, l, [], σ))) : am_th M pc ls E σ = rn M p l [] σ := by
  unfold am_th
  rw [hc]
  rfl
end
/-! which refusals -/
theorem opQ_E {n E : Nat} {σ σ' : St} {X : Unit → (Int32 ⊕ Nat) × St} (hX : ∀ e s, X () ≠ (.inr e, s)) (h : opQ n σ X = (.inr E, σ')) : E = 1 := by
  unfold opQ at h
  by_cases q : nzc σ.2.2.1 (64 * n) = 0 ∧ σ.2.2.2.2.2 ≠ []
  · rw [if_pos q] at h
    exact absurd h (hX _ _)
  · rw [if_neg q] at h
    cases h
    rfl
theorem opFeed_E {x : Int32} {E : Nat} {σ σ' : St} (h : opFeed x σ = (.inr E, σ')) : E = 0 := by
  unfold opFeed at h
  by_cases a : un x < 256
  · rw [if_pos a] at h
    by_cases b : σ.2.2.2.2.2.length = 12
    · rw [if_pos b] at h; cases h
    · rw [if_neg b] at h; cases h
  · rw [if_neg a] at h
    cases h
    rfl
theorem opFeed_v {x : Int32} {v : Int32} {σ σ' : St} (h : opFeed x σ = (.inl v, σ')) : v = 0 ∨ v = 1 := by
  unfold opFeed at h
  by_cases a : un x < 256
  · rw [if_pos a] at h
    by_cases b : σ.2.2.2.2.2.length = 12
    · rw [if_pos b] at h; cases h; exact Or.inl rfl
    · rw [if_neg b] at h; cases h; exact Or.inr rfl
  · rw [if_neg a] at h
    cases h
theorem opPut_E {n : Nat} {v : Int32} {E : Nat} {σ σ' : St} (h : opPut n v σ = (.inr E, σ')) : E = 1 := by
  unfold opPut at h
  refine opQ_E (fun e s g => ?_) h
  by_cases a : 600 < σ.2.2.2.2.1 + (σ.2.2.2.2.2.length + 6)
  · rw [if_pos a] at g; cases g
  · rw [if_neg a] at g
    cases b : accept n σ.2.2.2.2.2 v σ.1 with
    | none => rw [b] at g; cases g
    | some s => rw [b] at g; cases g
theorem opHas_E {n : Nat} {E : Nat} {σ σ' : St} (h : opHas n σ = (.inr E, σ')) : E = 1 := opQ_E (fun e s g => by cases g) h
theorem opFind_E {n : Nat} {E : Nat} {σ σ' : St} (h : opFind n σ = (.inr E, σ')) : E = 1 := opQ_E (fun e s g => by cases g) h
theorem opSave_E {n : Nat} {E : Nat} {σ σ' : St} (h : opSave n σ = (.inr E, σ')) : E = 1 := by
  unfold opSave at h
  by_cases a : nzc σ.2.2.1 (64 * n) = 0
  · rw [if_pos a] at h; cases h
  · rw [if_neg a] at h; cases h; rfl
theorem opCrash_E {n : Nat} {k : Int32} {E : Nat} {σ σ' : St} (h : opCrash n k σ = (.inr E, σ')) : E = 0 := by
  unfold opCrash at h
  by_cases a : un k ≤ σ.2.2.2.2.1
  · rw [if_pos a] at h; cases h
  · rw [if_neg a] at h; cases h; rfl
theorem opPoke_E {n : Nat} {p i x : Int32} {E : Nat} {σ σ' : St} (h : opPoke n p i x σ = (.inr E, σ')) : E = 2 ∨ E = 0 := by
  unfold opPoke at h
  by_cases a : un p < n ∧ un i < 64
  · rw [if_pos a] at h
    by_cases b : 1 ≤ un x ∧ un x < 256
    · rw [if_pos b] at h; cases h
    · rw [if_neg b] at h; cases h; exact Or.inr rfl
  · rw [if_neg a] at h; cases h; exact Or.inl rfl
theorem opPokeJ_E {i x : Int32} {E : Nat} {σ σ' : St} (h : opPokeJ i x σ = (.inr E, σ')) : E = 2 ∨ E = 0 := by
  unfold opPokeJ at h
  by_cases a : un i < 600
  · rw [if_pos a] at h
    by_cases b : 1 ≤ un x ∧ un x < 256
    · rw [if_pos b] at h; cases h
    · rw [if_neg b] at h; cases h; exact Or.inr rfl
  · rw [if_neg a] at h; cases h; exact Or.inl rfl
theorem opByte_E {n : Nat} {p i : Int32} {E : Nat} {σ σ' : St} (h : opByte n p i σ = (.inr E, σ')) : E = 2 := by
  unfold opByte at h
  by_cases a : un p < n ∧ un i < 64
  · rw [if_pos a] at h; cases h
  · rw [if_neg a] at h; cases h; rfl
theorem opEntry_E {e : Int32} {E : Nat} {σ σ' : St} (h : opEntry e σ = (.inr E, σ')) : E = 2 := by
  unfold opEntry at h
  by_cases a : un e < 2 ^ σ.1.D
  · rw [if_pos a] at h; cases h
  · rw [if_neg a] at h; cases h; rfl
theorem opCount_E {n : Nat} {w : Int32} {E : Nat} {σ σ' : St} (h : opCount n w σ = (.inr E, σ')) : E = 1 := by
  unfold opCount at h
  by_cases a0 : w = 0
  · rw [if_pos a0] at h; cases h
  rw [if_neg a0] at h
  by_cases a1 : w = 1
  · rw [if_pos a1] at h; cases h
  rw [if_neg a1] at h
  by_cases a2 : w = 2
  · rw [if_pos a2] at h
    by_cases b : nzc σ.2.2.1 (64 * n) = 0
    · rw [if_pos b] at h; cases h
    · rw [if_neg b] at h; cases h; rfl
  rw [if_neg a2] at h
  by_cases a3 : w = 3
  · rw [if_pos a3] at h; cases h
  rw [if_neg a3] at h
  by_cases a4 : w = 4
  · rw [if_pos a4] at h; cases h
  rw [if_neg a4] at h
  by_cases a5 : w = 5
  · rw [if_pos a5] at h; cases h
  · rw [if_neg a5] at h; cases h
/-! one call of the object, as the law wraps it -/
def LR (Y : Option am_R) (h : Nat → Option va_E) (x n out : Nat) (z : Nat × Nat × Nat) (kc : Nat → Int32) (g : Int32 → Int64) (o : (Int32 ⊕ Nat) × St) : Prop := ∃ (kk : Int32) (h' : Nat → Option va_E) (f' : Nat → Int64), Y = some (.inl (some (.int kk)), (h', zt o.1 z)) ∧ CI h' x n o.2 ∧ (∀ a, (a < x ∨ x + 27 + 6 * n ≤ a) → a ≠ out → h' a = h a) ∧ h' out = some (.inl (2, 1, .inr (.inl f'))) ∧ (∀ v, o.1 = .inl v → kk = 0 ∧ f' 0 = g v) ∧ (∀ E, o.1 = .inr E → kk = kc E)
def LRv (Y : Option am_R) (h : Nat → Option va_E) (x n : Nat) (z : Nat × Nat × Nat) (kc : Nat → Int32) (o : (Int32 ⊕ Nat) × St) : Prop := ∃ (kk : Int32) (h' : Nat → Option va_E), Y = some (.inl (some (.int kk)), (h', zt o.1 z)) ∧ CI h' x n o.2 ∧ frI x (x + 27 + 6 * n) h h' ∧ (∀ v, o.1 = .inl v → kk = 0) ∧ (∀ E, o.1 = .inr E → kk = kc E)
def gl (v : Int32) : Int64 := v.toInt64
def gb (v : Int32) : Int64 := if v = 0 then 0 else 1
section
variable {h : Nat → Option va_E} {z : Nat × Nat × Nat} {x n out : Nat} {f : Nat → Int64} {σ : St}
theorem lr_v {Y : Option am_R} {kc : Nat → Int32} {g : Int32 → Int64} {σ' : St} {v : Int32} {w : Int64} {h' : Nat → Option va_E} (hn : out < x ∨ x + 27 + 6 * n ≤ out) (c' : CI h' x n σ') (fr : frI x (x + 27 + 6 * n) h h') (hw : w = g v) (e : Y = some (.inl (some (.int 0)), (am_up h' out (.inl (2, 1, .inr (.inl (vp_updL f 0 w)))), z))) : LR Y h x n out z kc g (.inl v, σ') :=
  ⟨0, _, vp_updL f 0 w, e, c'.fr (fun a a1 a2 => up_n (by omega)), fun a a1 a2 => (up_n a2).trans (fr a a1), up_s _ _ _, fun v' hv => ⟨rfl, by cases hv; rw [← hw]; exact if_pos rfl⟩, fun E hE => (by cases hE)⟩
theorem lr_x {Y : Option am_R} {kc : Nat → Int32} {g : Int32 → Int64} {σ' : St} {E : Nat} {h' : Nat → Option va_E} (hn : out < x ∨ x + 27 + 6 * n ≤ out) (ho : h out = some (.inl (2, 1, .inr (.inl f)))) (c' : CI h' x n σ') (fr : frI x (x + 27 + 6 * n) h h') (e : Y = some (.inl (some (.int (kc E))), (h', (0, z.2.1 + 1, z.2.2 + 6)))) : LR Y h x n out z kc g (.inr E, σ') :=
  ⟨kc E, h', f, e, c', fun a a1 _ => fr a a1, (fr out hn).trans ho, fun v' hv => (by cases hv), fun E' hE => by cases hE; rfl⟩
theorem lrv_v {Y : Option am_R} {kc : Nat → Int32} {σ' : St} {v : Int32} {h' : Nat → Option va_E} (c' : CI h' x n σ') (fr : frI x (x + 27 + 6 * n) h h') (e : Y = some (.inl (some (.int 0)), (h', z))) : LRv Y h x n z kc (.inl v, σ') :=
  ⟨0, h', e, c', fr, fun _ _ => rfl, fun E hE => (by cases hE)⟩
theorem lrv_x {Y : Option am_R} {kc : Nat → Int32} {σ' : St} {E : Nat} {h' : Nat → Option va_E} (c' : CI h' x n σ') (fr : frI x (x + 27 + 6 * n) h h') (e : Y = some (.inl (some (.int (kc E))), (h', (0, z.2.1 + 1, z.2.2 + 6)))) : LRv Y h x n z kc (.inr E, σ') :=
  ⟨kc E, h', e, c', fr, fun v' hv => (by cases hv), fun E' hE => by cases hE; rfl⟩
end
