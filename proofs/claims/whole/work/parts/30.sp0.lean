/-! pure: words of the specs -/
abbrev ints (n : Nat) (f : Nat → Int32) : va_E := .inl (0, n, .inl f)
abbrev obj (c : Nat) (fs : List Value) : va_E := .inr (c, fs)
theorem up_s (h : Nat → Option va_E) (a : Nat) (c : va_E) : am_up h a c a = some c := by simp [am_up]
theorem up_n {h : Nat → Option va_E} {a b : Nat} {c : va_E} (hb : b ≠ a) : am_up h a c b = h b := by simp [am_up, hb]
theorem up_up (h : Nat → Option va_E) (a : Nat) (c d : va_E) : am_up (am_up h a c) a d = am_up h a d := by
  funext b
  by_cases hb : b = a <;> simp [am_up, hb]
theorem up_self {h : Nat → Option va_E} {a : Nat} {c : va_E} (hc : h a = some c) : am_up h a c = h := by
  funext b
  by_cases hb : b = a
  · rw [hb, up_s, hc]
  · rw [up_n hb]
theorem up_comm {h : Nat → Option va_E} {a b : Nat} {c d : va_E} (hab : a ≠ b) : am_up (am_up h a c) b d = am_up (am_up h b d) a c := by
  funext x
  by_cases h1 : x = a
  · subst h1; simp [am_up, hab]
  · by_cases h2 : x = b <;> simp [am_up, h1, h2, Ne.symm hab]
theorem ne_oa {h : Nat → Option va_E} {r a : Nat} {c : Nat × List Value} {d : ClassId × vp_A} (hr : h r = some (.inr c)) (ha : h a = some (.inl d)) : r ≠ a := by
  intro e
  rw [e, ha] at hr
  cases hr
theorem ix_nI {k n : Nat} (h : k < n) (hn : n ≤ 100000) : am_ix (nI k) n := by
  unfold am_ix
  rw [nI_toInt (by omega)]
  omega
theorem cl_nI {k : Nat} (h : k < 100001) : (nI k).toNatClampNeg = k := nI_clamp (by omega)
theorem al_in {n k : Nat} {f : Nat → Int32} {K : Int32 → Option am_R} (h : k < n) (hn : n ≤ 100000) : am_al0 (some (.inl (0, n, .inl f))) (nI k) K = K (f k) := by
  unfold am_al0
  dsimp only
  rw [if_pos ⟨Or.inl rfl, ix_nI h hn⟩, cl_nI (by omega)]
theorem as_in {n k : Nat} {f : Nat → Int32} {K : Nat → (Nat → Int32) → Option am_R} (h : k < n) (hn : n ≤ 100000) : am_is (some (.inl (0, n, .inl f))) (nI k) K = K n f := by
  unfold am_is
  dsimp only
  rw [if_pos ⟨rfl, ix_nI h hn⟩]
theorem ln_in {n : Nat} {f : Nat → Int32} {K : Nat → Option am_R} : am_ln (some (.inl (0, n, .inl f))) K = K n := rfl
theorem gf_in {c j : Nat} {fs : List Value} {v : Value} {K : Value → Option am_R} (h : fs[j]? = some v) : am_gf (some (.inr (c, fs))) c j K = K v := by
  simp only [am_gf, if_true, h]
theorem ck_in {c : Nat} {fs : List Value} {X : Option am_R} : am_ck (some (.inr (c, fs))) c X = X := by simp only [am_ck, if_true]
theorem pf_in {c j : Nat} {fs : List Value} {K : List Value → Option am_R} (h : j < fs.length) : am_pf (some (.inr (c, fs))) c j K = K fs := by
  unfold am_pf
  dsimp only
  exact if_pos ⟨rfl, h⟩
theorem gf_0 {c : Nat} {v0 : Value} {fs : List Value} {K : Value → Option am_R} : am_gf (some (.inr (c, v0 :: fs))) c 0 K = K v0 := gf_in rfl
theorem pf_0 {c : Nat} {v0 : Value} {fs : List Value} {K : List Value → Option am_R} : am_pf (some (.inr (c, v0 :: fs))) c 0 K = K (v0 :: fs) := pf_in (am_ltk 0 fs.length)
theorem gf_1 {c : Nat} {v0 v1 : Value} {fs : List Value} {K : Value → Option am_R} : am_gf (some (.inr (c, v0 :: v1 :: fs))) c 1 K = K v1 := gf_in rfl
theorem pf_1 {c : Nat} {v0 v1 : Value} {fs : List Value} {K : List Value → Option am_R} : am_pf (some (.inr (c, v0 :: v1 :: fs))) c 1 K = K (v0 :: v1 :: fs) := pf_in (am_ltk 1 fs.length)
theorem gf_2 {c : Nat} {v0 v1 v2 : Value} {fs : List Value} {K : Value → Option am_R} : am_gf (some (.inr (c, v0 :: v1 :: v2 :: fs))) c 2 K = K v2 := gf_in rfl
theorem pf_2 {c : Nat} {v0 v1 v2 : Value} {fs : List Value} {K : List Value → Option am_R} : am_pf (some (.inr (c, v0 :: v1 :: v2 :: fs))) c 2 K = K (v0 :: v1 :: v2 :: fs) := pf_in (am_ltk 2 fs.length)
theorem gf_3 {c : Nat} {v0 v1 v2 v3 : Value} {fs : List Value} {K : Value → Option am_R} : am_gf (some (.inr (c, v0 :: v1 :: v2 :: v3 :: fs))) c 3 K = K v3 := gf_in rfl
theorem pf_3 {c : Nat} {v0 v1 v2 v3 : Value} {fs : List Value} {K : List Value → Option am_R} : am_pf (some (.inr (c, v0 :: v1 :: v2 :: v3 :: fs))) c 3 K = K (v0 :: v1 :: v2 :: v3 :: fs) := pf_in (am_ltk 3 fs.length)
theorem gf_4 {c : Nat} {v0 v1 v2 v3 v4 : Value} {fs : List Value} {K : Value → Option am_R} : am_gf (some (.inr (c, v0 :: v1 :: v2 :: v3 :: v4 :: fs))) c 4 K = K v4 := gf_in rfl
theorem pf_4 {c : Nat} {v0 v1 v2 v3 v4 : Value} {fs : List Value} {K : List Value → Option am_R} : am_pf (some (.inr (c, v0 :: v1 :: v2 :: v3 :: v4 :: fs))) c 4 K = K (v0 :: v1 :: v2 :: v3 :: v4 :: fs) := pf_in (am_ltk 4 fs.length)
theorem gf_5 {c : Nat} {v0 v1 v2 v3 v4 v5 : Value} {fs : List Value} {K : Value → Option am_R} : am_gf (some (.inr (c, v0 :: v1 :: v2 :: v3 :: v4 :: v5 :: fs))) c 5 K = K v5 := gf_in rfl
theorem pf_5 {c : Nat} {v0 v1 v2 v3 v4 v5 : Value} {fs : List Value} {K : List Value → Option am_R} : am_pf (some (.inr (c, v0 :: v1 :: v2 :: v3 :: v4 :: v5 :: fs))) c 5 K = K (v0 :: v1 :: v2 :: v3 :: v4 :: v5 :: fs) := pf_in (am_ltk 5 fs.length)
theorem gf_6 {c : Nat} {v0 v1 v2 v3 v4 v5 v6 : Value} {fs : List Value} {K : Value → Option am_R} : am_gf (some (.inr (c, v0 :: v1 :: v2 :: v3 :: v4 :: v5 :: v6 :: fs))) c 6 K = K v6 := gf_in rfl
theorem pf_6 {c : Nat} {v0 v1 v2 v3 v4 v5 v6 : Value} {fs : List Value} {K : List Value → Option am_R} : am_pf (some (.inr (c, v0 :: v1 :: v2 :: v3 :: v4 :: v5 :: v6 :: fs))) c 6 K = K (v0 :: v1 :: v2 :: v3 :: v4 :: v5 :: v6 :: fs) := pf_in (am_ltk 6 fs.length)
theorem gf_7 {c : Nat} {v0 v1 v2 v3 v4 v5 v6 v7 : Value} {fs : List Value} {K : Value → Option am_R} : am_gf (some (.inr (c, v0 :: v1 :: v2 :: v3 :: v4 :: v5 :: v6 :: v7 :: fs))) c 7 K = K v7 := gf_in rfl
theorem pf_7 {c : Nat} {v0 v1 v2 v3 v4 v5 v6 v7 : Value} {fs : List Value} {K : List Value → Option am_R} : am_pf (some (.inr (c, v0 :: v1 :: v2 :: v3 :: v4 :: v5 :: v6 :: v7 :: fs))) c 7 K = K (v0 :: v1 :: v2 :: v3 :: v4 :: v5 :: v6 :: v7 :: fs) := pf_in (am_ltk 7 fs.length)
theorem gf_8 {c : Nat} {v0 v1 v2 v3 v4 v5 v6 v7 v8 : Value} {fs : List Value} {K : Value → Option am_R} : am_gf (some (.inr (c, v0 :: v1 :: v2 :: v3 :: v4 :: v5 :: v6 :: v7 :: v8 :: fs))) c 8 K = K v8 := gf_in rfl
theorem pf_8 {c : Nat} {v0 v1 v2 v3 v4 v5 v6 v7 v8 : Value} {fs : List Value} {K : List Value → Option am_R} : am_pf (some (.inr (c, v0 :: v1 :: v2 :: v3 :: v4 :: v5 :: v6 :: v7 :: v8 :: fs))) c 8 K = K (v0 :: v1 :: v2 :: v3 :: v4 :: v5 :: v6 :: v7 :: v8 :: fs) := pf_in (am_ltk 8 fs.length)
theorem gf_9 {c : Nat} {v0 v1 v2 v3 v4 v5 v6 v7 v8 v9 : Value} {fs : List Value} {K : Value → Option am_R} : am_gf (some (.inr (c, v0 :: v1 :: v2 :: v3 :: v4 :: v5 :: v6 :: v7 :: v8 :: v9 :: fs))) c 9 K = K v9 := gf_in rfl
theorem pf_9 {c : Nat} {v0 v1 v2 v3 v4 v5 v6 v7 v8 v9 : Value} {fs : List Value} {K : List Value → Option am_R} : am_pf (some (.inr (c, v0 :: v1 :: v2 :: v3 :: v4 :: v5 :: v6 :: v7 :: v8 :: v9 :: fs))) c 9 K = K (v0 :: v1 :: v2 :: v3 :: v4 :: v5 :: v6 :: v7 :: v8 :: v9 :: fs) := pf_in (am_ltk 9 fs.length)
theorem gf_10 {c : Nat} {v0 v1 v2 v3 v4 v5 v6 v7 v8 v9 v10 : Value} {fs : List Value} {K : Value → Option am_R} : am_gf (some (.inr (c, v0 :: v1 :: v2 :: v3 :: v4 :: v5 :: v6 :: v7 :: v8 :: v9 :: v10 :: fs))) c 10 K = K v10 := gf_in rfl
theorem pf_10 {c : Nat} {v0 v1 v2 v3 v4 v5 v6 v7 v8 v9 v10 : Value} {fs : List Value} {K : List Value → Option am_R} : am_pf (some (.inr (c, v0 :: v1 :: v2 :: v3 :: v4 :: v5 :: v6 :: v7 :: v8 :: v9 :: v10 :: fs))) c 10 K = K (v0 :: v1 :: v2 :: v3 :: v4 :: v5 :: v6 :: v7 :: v8 :: v9 :: v10 :: fs) := pf_in (am_ltk 10 fs.length)
theorem gf_11 {c : Nat} {v0 v1 v2 v3 v4 v5 v6 v7 v8 v9 v10 v11 : Value} {fs : List Value} {K : Value → Option am_R} : am_gf (some (.inr (c, v0 :: v1 :: v2 :: v3 :: v4 :: v5 :: v6 :: v7 :: v8 :: v9 :: v10 :: v11 :: fs))) c 11 K = K v11 := gf_in rfl
theorem pf_11 {c : Nat} {v0 v1 v2 v3 v4 v5 v6 v7 v8 v9 v10 v11 : Value} {fs : List Value} {K : List Value → Option am_R} : am_pf (some (.inr (c, v0 :: v1 :: v2 :: v3 :: v4 :: v5 :: v6 :: v7 :: v8 :: v9 :: v10 :: v11 :: fs))) c 11 K = K (v0 :: v1 :: v2 :: v3 :: v4 :: v5 :: v6 :: v7 :: v8 :: v9 :: v10 :: v11 :: fs) := pf_in (am_ltk 11 fs.length)
theorem gf_12 {c : Nat} {v0 v1 v2 v3 v4 v5 v6 v7 v8 v9 v10 v11 v12 : Value} {fs : List Value} {K : Value → Option am_R} : am_gf (some (.inr (c, v0 :: v1 :: v2 :: v3 :: v4 :: v5 :: v6 :: v7 :: v8 :: v9 :: v10 :: v11 :: v12 :: fs))) c 12 K = K v12 := gf_in rfl
theorem pf_12 {c : Nat} {v0 v1 v2 v3 v4 v5 v6 v7 v8 v9 v10 v11 v12 : Value} {fs : List Value} {K : List Value → Option am_R} : am_pf (some (.inr (c, v0 :: v1 :: v2 :: v3 :: v4 :: v5 :: v6 :: v7 :: v8 :: v9 :: v10 :: v11 :: v12 :: fs))) c 12 K = K (v0 :: v1 :: v2 :: v3 :: v4 :: v5 :: v6 :: v7 :: v8 :: v9 :: v10 :: v11 :: v12 :: fs) := pf_in (am_ltk 12 fs.length)
theorem gf_13 {c : Nat} {v0 v1 v2 v3 v4 v5 v6 v7 v8 v9 v10 v11 v12 v13 : Value} {fs : List Value} {K : Value → Option am_R} : am_gf (some (.inr (c, v0 :: v1 :: v2 :: v3 :: v4 :: v5 :: v6 :: v7 :: v8 :: v9 :: v10 :: v11 :: v12 :: v13 :: fs))) c 13 K = K v13 := gf_in rfl
theorem pf_13 {c : Nat} {v0 v1 v2 v3 v4 v5 v6 v7 v8 v9 v10 v11 v12 v13 : Value} {fs : List Value} {K : List Value → Option am_R} : am_pf (some (.inr (c, v0 :: v1 :: v2 :: v3 :: v4 :: v5 :: v6 :: v7 :: v8 :: v9 :: v10 :: v11 :: v12 :: v13 :: fs))) c 13 K = K (v0 :: v1 :: v2 :: v3 :: v4 :: v5 :: v6 :: v7 :: v8 :: v9 :: v10 :: v11 :: v12 :: v13 :: fs) := pf_in (am_ltk 13 fs.length)
theorem gf_14 {c : Nat} {v0 v1 v2 v3 v4 v5 v6 v7 v8 v9 v10 v11 v12 v13 v14 : Value} {fs : List Value} {K : Value → Option am_R} : am_gf (some (.inr (c, v0 :: v1 :: v2 :: v3 :: v4 :: v5 :: v6 :: v7 :: v8 :: v9 :: v10 :: v11 :: v12 :: v13 :: v14 :: fs))) c 14 K = K v14 := gf_in rfl
theorem pf_14 {c : Nat} {v0 v1 v2 v3 v4 v5 v6 v7 v8 v9 v10 v11 v12 v13 v14 : Value} {fs : List Value} {K : List Value → Option am_R} : am_pf (some (.inr (c, v0 :: v1 :: v2 :: v3 :: v4 :: v5 :: v6 :: v7 :: v8 :: v9 :: v10 :: v11 :: v12 :: v13 :: v14 :: fs))) c 14 K = K (v0 :: v1 :: v2 :: v3 :: v4 :: v5 :: v6 :: v7 :: v8 :: v9 :: v10 :: v11 :: v12 :: v13 :: v14 :: fs) := pf_in (am_ltk 14 fs.length)
theorem gf_15 {c : Nat} {v0 v1 v2 v3 v4 v5 v6 v7 v8 v9 v10 v11 v12 v13 v14 v15 : Value} {fs : List Value} {K : Value → Option am_R} : am_gf (some (.inr (c, v0 :: v1 :: v2 :: v3 :: v4 :: v5 :: v6 :: v7 :: v8 :: v9 :: v10 :: v11 :: v12 :: v13 :: v14 :: v15 :: fs))) c 15 K = K v15 := gf_in rfl
theorem pf_15 {c : Nat} {v0 v1 v2 v3 v4 v5 v6 v7 v8 v9 v10 v11 v12 v13 v14 v15 : Value} {fs : List Value} {K : List Value → Option am_R} : am_pf (some (.inr (c, v0 :: v1 :: v2 :: v3 :: v4 :: v5 :: v6 :: v7 :: v8 :: v9 :: v10 :: v11 :: v12 :: v13 :: v14 :: v15 :: fs))) c 15 K = K (v0 :: v1 :: v2 :: v3 :: v4 :: v5 :: v6 :: v7 :: v8 :: v9 :: v10 :: v11 :: v12 :: v13 :: v14 :: v15 :: fs) := pf_in (am_ltk 15 fs.length)
theorem gf_16 {c : Nat} {v0 v1 v2 v3 v4 v5 v6 v7 v8 v9 v10 v11 v12 v13 v14 v15 v16 : Value} {fs : List Value} {K : Value → Option am_R} : am_gf (some (.inr (c, v0 :: v1 :: v2 :: v3 :: v4 :: v5 :: v6 :: v7 :: v8 :: v9 :: v10 :: v11 :: v12 :: v13 :: v14 :: v15 :: v16 :: fs))) c 16 K = K v16 := gf_in rfl
theorem pf_16 {c : Nat} {v0 v1 v2 v3 v4 v5 v6 v7 v8 v9 v10 v11 v12 v13 v14 v15 v16 : Value} {fs : List Value} {K : List Value → Option am_R} : am_pf (some (.inr (c, v0 :: v1 :: v2 :: v3 :: v4 :: v5 :: v6 :: v7 :: v8 :: v9 :: v10 :: v11 :: v12 :: v13 :: v14 :: v15 :: v16 :: fs))) c 16 K = K (v0 :: v1 :: v2 :: v3 :: v4 :: v5 :: v6 :: v7 :: v8 :: v9 :: v10 :: v11 :: v12 :: v13 :: v14 :: v15 :: v16 :: fs) := pf_in (am_ltk 16 fs.length)
theorem gf_17 {c : Nat} {v0 v1 v2 v3 v4 v5 v6 v7 v8 v9 v10 v11 v12 v13 v14 v15 v16 v17 : Value} {fs : List Value} {K : Value → Option am_R} : am_gf (some (.inr (c, v0 :: v1 :: v2 :: v3 :: v4 :: v5 :: v6 :: v7 :: v8 :: v9 :: v10 :: v11 :: v12 :: v13 :: v14 :: v15 :: v16 :: v17 :: fs))) c 17 K = K v17 := gf_in rfl
theorem pf_17 {c : Nat} {v0 v1 v2 v3 v4 v5 v6 v7 v8 v9 v10 v11 v12 v13 v14 v15 v16 v17 : Value} {fs : List Value} {K : List Value → Option am_R} : am_pf (some (.inr (c, v0 :: v1 :: v2 :: v3 :: v4 :: v5 :: v6 :: v7 :: v8 :: v9 :: v10 :: v11 :: v12 :: v13 :: v14 :: v15 :: v16 :: v17 :: fs))) c 17 K = K (v0 :: v1 :: v2 :: v3 :: v4 :: v5 :: v6 :: v7 :: v8 :: v9 :: v10 :: v11 :: v12 :: v13 :: v14 :: v15 :: v16 :: v17 :: fs) := pf_in (am_ltk 17 fs.length)
theorem gf_18 {c : Nat} {v0 v1 v2 v3 v4 v5 v6 v7 v8 v9 v10 v11 v12 v13 v14 v15 v16 v17 v18 : Value} {fs : List Value} {K : Value → Option am_R} : am_gf (some (.inr (c, v0 :: v1 :: v2 :: v3 :: v4 :: v5 :: v6 :: v7 :: v8 :: v9 :: v10 :: v11 :: v12 :: v13 :: v14 :: v15 :: v16 :: v17 :: v18 :: fs))) c 18 K = K v18 := gf_in rfl
theorem pf_18 {c : Nat} {v0 v1 v2 v3 v4 v5 v6 v7 v8 v9 v10 v11 v12 v13 v14 v15 v16 v17 v18 : Value} {fs : List Value} {K : List Value → Option am_R} : am_pf (some (.inr (c, v0 :: v1 :: v2 :: v3 :: v4 :: v5 :: v6 :: v7 :: v8 :: v9 :: v10 :: v11 :: v12 :: v13 :: v14 :: v15 :: v16 :: v17 :: v18 :: fs))) c 18 K = K (v0 :: v1 :: v2 :: v3 :: v4 :: v5 :: v6 :: v7 :: v8 :: v9 :: v10 :: v11 :: v12 :: v13 :: v14 :: v15 :: v16 :: v17 :: v18 :: fs) := pf_in (am_ltk 18 fs.length)
theorem gf_19 {c : Nat} {v0 v1 v2 v3 v4 v5 v6 v7 v8 v9 v10 v11 v12 v13 v14 v15 v16 v17 v18 v19 : Value} {fs : List Value} {K : Value → Option am_R} : am_gf (some (.inr (c, v0 :: v1 :: v2 :: v3 :: v4 :: v5 :: v6 :: v7 :: v8 :: v9 :: v10 :: v11 :: v12 :: v13 :: v14 :: v15 :: v16 :: v17 :: v18 :: v19 :: fs))) c 19 K = K v19 := gf_in rfl
theorem pf_19 {c : Nat} {v0 v1 v2 v3 v4 v5 v6 v7 v8 v9 v10 v11 v12 v13 v14 v15 v16 v17 v18 v19 : Value} {fs : List Value} {K : List Value → Option am_R} : am_pf (some (.inr (c, v0 :: v1 :: v2 :: v3 :: v4 :: v5 :: v6 :: v7 :: v8 :: v9 :: v10 :: v11 :: v12 :: v13 :: v14 :: v15 :: v16 :: v17 :: v18 :: v19 :: fs))) c 19 K = K (v0 :: v1 :: v2 :: v3 :: v4 :: v5 :: v6 :: v7 :: v8 :: v9 :: v10 :: v11 :: v12 :: v13 :: v14 :: v15 :: v16 :: v17 :: v18 :: v19 :: fs) := pf_in (am_ltk 19 fs.length)
theorem bd_v {v : Option Value} {σ : am_S} {K : Option Value → am_S → Option am_R} : am_bd (some (.inl v, σ)) K = K v σ := rfl
theorem bd_x {E : Nat} {σ : am_S} {K : Option Value → am_S → Option am_R} : am_bd (some (.inr E, σ)) K = some (.inr E, σ) := rfl
theorem bi_v {v : Option Value} {σ : am_S} {K : Option Value → am_S → Option am_R} : am_bi (some (.inl v, σ)) K = K v σ := rfl
theorem n_lt0 {k : Nat} (h : k < 2 ^ 31) : ¬ (nI k < 0) := nI_pos h
theorem one_nI : (1 : Int32) = nI 1 := rfl
theorem nI_lit (k : Nat) : (OfNat.ofNat k : Int32) = nI k := rfl
/-- the sums of the document -/
def mix (s b : Int32) : Int32 := (((s ^^^ b) <<< ((11 : Int32) &&& 31)) ||| ((s ^^^ b).toUInt32 >>> ((21 : Int32).toUInt32 &&& Int32.toUInt32 31)).toInt32) * (-1640531535)
def sm (mx : Int32 → Int32 → Int32) (g : Nat → Int32) : Nat → Nat → Int32 → Int32
  | _, 0, s => s
  | p, m + 1, s => sm mx g (p + 1) m (mx s (g p))
theorem sm_congr {mx : Int32 → Int32 → Int32} {g g' : Nat → Int32} : ∀ (m p : Nat) (s : Int32), (∀ i, i < m → g (p + i) = g' (p + i)) → sm mx g p m s = sm mx g' p m s := by
  intro m
  induction m with
  | zero => intro p s h; rfl
  | succ m ih =>
    intro p s h
    have h0 := h 0 (by omega)
    rw [Nat.add_zero] at h0
    rw [sm, sm, h0]
    exact ih (p + 1) _ (fun i hi => by rw [show p + 1 + i = p + (i + 1) by omega]; exact h (i + 1) (by omega))
/-- a number out of four bytes -/
def num (f : Nat → Int32) (p : Nat) : Int32 := (((((((0 : Int32) <<< ((8 : Int32) &&& 31)) ||| f p) <<< ((8 : Int32) &&& 31)) ||| f (p + 1)) <<< ((8 : Int32) &&& 31)) ||| f (p + 2)) <<< ((8 : Int32) &&& 31) ||| f (p + 3)
/-- the bytes of a number: k = 0 the highest -/
def byt (v : Int32) (k : Nat) : Int32 := (v.toUInt32 >>> ((nI (24 - 8 * k)).toUInt32 &&& Int32.toUInt32 31)).toInt32 &&& 255
def putn (f : Nat → Int32) (p : Nat) (v : Int32) : Nat → Int32 := upd (upd (upd (upd f p (byt v 0)) (p + 1) (byt v 1)) (p + 2) (byt v 2)) (p + 3) (byt v 3)
def cpy (g f : Nat → Int32) (q p m : Nat) : Nat → Int32 := fun k => if p ≤ k ∧ k < p + m then g (q + (k - p)) else f k
def same (f g : Nat → Int32) (p q m : Nat) : Bool := decide (∀ i, i < m → f (p + i) = g (q + i))
