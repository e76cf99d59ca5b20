/-! the object: what it is, its calls in words -/
def mskd (S : Sh) (M : Nat → Int32) (i j : Nat) : Int32 := pgF (S.dep i) (S.rec i) j ^^^ (if j < 64 then M (64 * i + j) else 0)
def LvL (h : Nat → Option va_E) (s n : Nat) (S : Sh) (M : Nat → Int32) : Prop := ∃ tf : Nat → Int32, ShL h s n (mskd S M) (fun i => 2 + tsz (S.rec i)) tf S.D S.used S.acts ∧ ∀ e, e < 2 ^ S.D → tf e = nI (S.tab e)
theorem mskd_0 {S : Sh} {M : Nat → Int32} {i n : Nat} (hi : i < n) (h : ∀ j, j < 64 * n → M j = 0) : mskd S M i = pgF (S.dep i) (S.rec i) := by
  funext j
  unfold mskd
  by_cases hj : j < 64
  · rw [if_pos hj, h _ (by omega), Int32.xor_zero]
  · rw [if_neg hj, Int32.xor_zero]
theorem mskd_64 {S : Sh} {M : Nat → Int32} {i j : Nat} (h : 64 ≤ j) : mskd S M i j = 0 := by
  unfold mskd
  rw [if_neg (by omega), pgF_64 _ _ h]
  rfl
theorem LvL.sh {h : Nat → Option va_E} {s n : Nat} {S : Sh} {M : Nat → Int32} (a : LvL h s n S M) (hM : ∀ j, j < 64 * n → M j = 0) : ShS h s n S := by
  obtain ⟨tf, ⟨a1, a2, a3, a4, a5, a6⟩, b⟩ := a
  refine ⟨tf, ⟨a1, a2, a3, a4, a5, fun i hi => ?_⟩, b⟩
  have := a6 i hi
  rw [mskd_0 hi hM] at this
  exact this
theorem ShS.lv {h : Nat → Option va_E} {s n : Nat} {S : Sh} {M : Nat → Int32} (a : ShS h s n S) (hM : ∀ j, j < 64 * n → M j = 0) : LvL h s n S M := by
  obtain ⟨tf, ⟨a1, a2, a3, a4, a5, a6⟩, b⟩ := a
  refine ⟨tf, ⟨a1, a2, a3, a4, a5, fun i hi => ?_⟩, b⟩
  have := a6 i hi
  rw [mskd_0 hi hM]
  exact this
abbrev St : Type := Sh × Sh × (Nat → Int32) × (Nat → Int32) × Nat × List Int32
def CC (h : Nat → Option va_E) (b n : Nat) (S Sv : Sh) (Ml Ma J : Nat → Int32) (jl : Nat) (nm : List Int32) : Prop :=
  h b = some (obj 6 [.ref (b + 10), .ref (b + 17 + 3 * n), .ref (b + 24 + 6 * n), .ref (b + 1), .ref (b + 4), .ref (b + 7)]) ∧
  JrL h (b + 1) J jl ∧ (∃ f : Nat → Int32, NameAt h (b + 4) (b + 5) (b + 6) nm.length f ∧ nm = nmof nm.length f) ∧ (∃ (l : Nat) (f : Nat → Int32), NameAt h (b + 7) (b + 8) (b + 9) l f) ∧
  LvL h (b + 10) n S Ml ∧ ShS h (b + 17 + 3 * n) n Sv ∧ AlL h (b + 24 + 6 * n) n Ma
def CI (h : Nat → Option va_E) (b n : Nat) (σ : St) : Prop := CC h b n σ.1 σ.2.1 σ.2.2.1 σ.2.2.1 σ.2.2.2.1 σ.2.2.2.2.1 σ.2.2.2.2.2
def SI (n : Nat) (σ : St) : Prop := WF n σ.1 ∧ WF n σ.2.1 ∧ σ.2.2.2.2.1 ≤ 600 ∧ σ.2.2.2.2.2.length ≤ 12 ∧ (∀ j, un (σ.2.2.1 j) < 256) ∧ ∀ j, 64 * n ≤ j → σ.2.2.1 j = 0
theorem JrL.fr {h h' : Nat → Option va_E} {j jl : Nat} {J : Nat → Int32} (a : JrL h j J jl) (e : ∀ x, j ≤ x → x < j + 3 → h' x = h x) : JrL h' j J jl := ⟨(e _ (by omega) (by omega)).trans a.1, (e _ (by omega) (by omega)).trans a.2.1, (e _ (by omega) (by omega)).trans a.2.2⟩
theorem AlL.fr {h h' : Nat → Option va_E} {a n : Nat} {M : Nat → Int32} (c : AlL h a n M) (e : ∀ x, a ≤ x → x < a + 3 → h' x = h x) : AlL h' a n M := ⟨(e _ (by omega) (by omega)).trans c.1, (e _ (by omega) (by omega)).trans c.2.1, (e _ (by omega) (by omega)).trans c.2.2⟩
theorem LvL.fr {h h' : Nat → Option va_E} {s n : Nat} {S : Sh} {M : Nat → Int32} (a : LvL h s n S M) (hh : ∀ b, s ≤ b → b < s + 7 + 3 * n → h' b = h b) : LvL h' s n S M := by
  obtain ⟨tf, a1, a2⟩ := a
  exact ⟨tf, a1.fr hh, a2⟩
section
variable {h h' : Nat → Option va_E} {b n : Nat} {S Sv : Sh} {Ml Ma J : Nat → Int32} {jl : Nat} {nm : List Int32}
theorem CC.j (c : CC h b n S Sv Ml Ma J jl nm) (f : frI (b + 1) (b + 4) h h') {J' : Nat → Int32} {jl' : Nat} (a : JrL h' (b + 1) J' jl') : CC h' b n S Sv Ml Ma J' jl' nm := by
  obtain ⟨c1, c2, ⟨f3, c3, c3'⟩, ⟨l4, f4, c4⟩, c5, c6, c7⟩ := c
  exact ⟨(f _ (by omega)).trans c1, a, ⟨f3, c3.fr f (by omega) (by omega) (by omega), c3'⟩, ⟨l4, f4, c4.fr f (by omega) (by omega) (by omega)⟩, c5.fr (fun x _ _ => f x (by omega)), c6.fr (fun x _ _ => f x (by omega)), c7.fr (fun x _ _ => f x (by omega))⟩
theorem CC.f (c : CC h b n S Sv Ml Ma J jl nm) (f : frI (b + 4) (b + 7) h h') {nm' : List Int32} (a : ∃ f : Nat → Int32, NameAt h' (b + 4) (b + 5) (b + 6) nm'.length f ∧ nm' = nmof nm'.length f) : CC h' b n S Sv Ml Ma J jl nm' := by
  obtain ⟨c1, c2, -, ⟨l4, f4, c4⟩, c5, c6, c7⟩ := c
  exact ⟨(f _ (by omega)).trans c1, c2.fr (fun x _ _ => f x (by omega)), a, ⟨l4, f4, c4.fr f (by omega) (by omega) (by omega)⟩, c5.fr (fun x _ _ => f x (by omega)), c6.fr (fun x _ _ => f x (by omega)), c7.fr (fun x _ _ => f x (by omega))⟩
theorem CC.r (c : CC h b n S Sv Ml Ma J jl nm) (f : frI (b + 7) (b + 10) h h') (a : ∃ (l : Nat) (f : Nat → Int32), NameAt h' (b + 7) (b + 8) (b + 9) l f) : CC h' b n S Sv Ml Ma J jl nm := by
  obtain ⟨c1, c2, ⟨f3, c3, c3'⟩, -, c5, c6, c7⟩ := c
  exact ⟨(f _ (by omega)).trans c1, c2.fr (fun x _ _ => f x (by omega)), ⟨f3, c3.fr f (by omega) (by omega) (by omega), c3'⟩, a, c5.fr (fun x _ _ => f x (by omega)), c6.fr (fun x _ _ => f x (by omega)), c7.fr (fun x _ _ => f x (by omega))⟩
theorem CC.l (c : CC h b n S Sv Ml Ma J jl nm) (f : frI (b + 10) (b + 10 + 7 + 3 * n) h h') {S' : Sh} {M' : Nat → Int32} (a : LvL h' (b + 10) n S' M') : CC h' b n S' Sv M' Ma J jl nm := by
  obtain ⟨c1, c2, ⟨f3, c3, c3'⟩, ⟨l4, f4, c4⟩, c5, c6, c7⟩ := c
  exact ⟨(f _ (by omega)).trans c1, c2.fr (fun x _ _ => f x (by omega)), ⟨f3, c3.fr f (by omega) (by omega) (by omega), c3'⟩, ⟨l4, f4, c4.fr f (by omega) (by omega) (by omega)⟩, a, c6.fr (fun x _ _ => f x (by omega)), c7.fr (fun x _ _ => f x (by omega))⟩
theorem CC.s (c : CC h b n S Sv Ml Ma J jl nm) (f : frI (b + 17 + 3 * n) (b + 17 + 3 * n + 7 + 3 * n) h h') {S' : Sh} (a : ShS h' (b + 17 + 3 * n) n S') : CC h' b n S S' Ml Ma J jl nm := by
  obtain ⟨c1, c2, ⟨f3, c3, c3'⟩, ⟨l4, f4, c4⟩, c5, c6, c7⟩ := c
  exact ⟨(f _ (by omega)).trans c1, c2.fr (fun x _ _ => f x (by omega)), ⟨f3, c3.fr f (by omega) (by omega) (by omega), c3'⟩, ⟨l4, f4, c4.fr f (by omega) (by omega) (by omega)⟩, c5.fr (fun x _ _ => f x (by omega)), a, c7.fr (fun x _ _ => f x (by omega))⟩
theorem CC.a (c : CC h b n S Sv Ml Ma J jl nm) (f : frI (b + 24 + 6 * n) (b + 27 + 6 * n) h h') {M' : Nat → Int32} (a : AlL h' (b + 24 + 6 * n) n M') : CC h' b n S Sv Ml M' J jl nm := by
  obtain ⟨c1, c2, ⟨f3, c3, c3'⟩, ⟨l4, f4, c4⟩, c5, c6, c7⟩ := c
  exact ⟨(f _ (by omega)).trans c1, c2.fr (fun x _ _ => f x (by omega)), ⟨f3, c3.fr f (by omega) (by omega) (by omega), c3'⟩, ⟨l4, f4, c4.fr f (by omega) (by omega) (by omega)⟩, c5.fr (fun x _ _ => f x (by omega)), c6.fr (fun x _ _ => f x (by omega)), a⟩
end
/-- the calls -/
def rpl (n : Nat) (J : Nat → Int32) (jl : Nat) : Nat → Nat → Sh → Nat × Sh
  | 0, p, S => (p, S)
  | m + 1, p, S => if whl J jl p then (match accept n (nmof (un (J p)) (fun i => J (p + 1 + i))) (num J (p + 1 + un (J p))) S with
    | none => (p, S)
    | some S' => rpl n J jl m (p + un (J p) + 6) S') else (p, S)
def badG (F : Nat → Nat → Int32) (n : Nat) : Nat → Int32
  | 0 => -1
  | m + 1 => if sm mix (F (n - (m + 1))) 0 60 0 = num (F (n - (m + 1))) 60 then badG F n m else nI (n - (m + 1))
def opFeed (x : Int32) (σ : St) : (Int32 ⊕ Nat) × St := if un x < 256 then (if σ.2.2.2.2.2.length = 12 then (.inl 0, σ) else (.inl 1, (σ.1, σ.2.1, σ.2.2.1, σ.2.2.2.1, σ.2.2.2.2.1, σ.2.2.2.2.2 ++ [x]))) else (.inr 0, σ)
def opQ (n : Nat) (σ : St) (X : Unit → (Int32 ⊕ Nat) × St) : (Int32 ⊕ Nat) × St := if nzc σ.2.2.1 (64 * n) = 0 ∧ σ.2.2.2.2.2 ≠ [] then X () else (.inr 1, σ)
def clr (σ : St) : St := (σ.1, σ.2.1, σ.2.2.1, σ.2.2.2.1, σ.2.2.2.2.1, [])
def opPut (n : Nat) (v : Int32) (σ : St) : (Int32 ⊕ Nat) × St := opQ n σ (fun _ => if 600 < σ.2.2.2.2.1 + (σ.2.2.2.2.2.length + 6) then (.inl (-2), clr σ) else (match accept n σ.2.2.2.2.2 v σ.1 with
  | none => (.inl (-1), clr σ)
  | some S' => (.inl (nI σ.1.acts), (S', σ.2.1, σ.2.2.1, japp σ.2.2.2.1 σ.2.2.2.2.1 σ.2.2.2.2.2 v, σ.2.2.2.2.1 + (σ.2.2.2.2.2.length + 6), []))))
def opHas (n : Nat) (σ : St) : (Int32 ⊕ Nat) × St := opQ n σ (fun _ => (.inl (if σ.2.2.2.2.2 ∈ (σ.1.rec (σ.1.at (hsh σ.2.2.2.2.2))).map Prod.fst then 1 else 0), clr σ))
def opFind (n : Nat) (σ : St) : (Int32 ⊕ Nat) × St := opQ n σ (fun _ => (.inl (numOf σ.2.2.2.2.2 (σ.1.rec (σ.1.at (hsh σ.2.2.2.2.2)))), clr σ))
def opSave (n : Nat) (σ : St) : (Int32 ⊕ Nat) × St := if nzc σ.2.2.1 (64 * n) = 0 then (.inl (nI σ.1.acts), (σ.1, σ.1, σ.2.2.1, σ.2.2.2.1, 0, σ.2.2.2.2.2)) else (.inr 1, σ)
def opCrash (n : Nat) (k : Int32) (σ : St) : (Int32 ⊕ Nat) × St := if un k ≤ σ.2.2.2.2.1 then (.inl (nI (rpl n σ.2.2.2.1 (un k) 600 0 σ.2.1).2.acts), ((rpl n σ.2.2.2.1 (un k) 600 0 σ.2.1).2, σ.2.1, (fun _ => 0), σ.2.2.2.1, (rpl n σ.2.2.2.1 (un k) 600 0 σ.2.1).1, [])) else (.inr 0, σ)
def opPoke (n : Nat) (p i x : Int32) (σ : St) : (Int32 ⊕ Nat) × St := if un p < n ∧ un i < 64 then (if 1 ≤ un x ∧ un x < 256 then (.inl 0, (σ.1, σ.2.1, upd σ.2.2.1 (64 * un p + un i) (σ.2.2.1 (64 * un p + un i) ^^^ x), σ.2.2.2)) else (.inr 0, σ)) else (.inr 2, σ)
def opPokeJ (i x : Int32) (σ : St) : (Int32 ⊕ Nat) × St := if un i < 600 then (if 1 ≤ un x ∧ un x < 256 then (.inl 0, (σ.1, σ.2.1, σ.2.2.1, upd σ.2.2.2.1 (un i) (σ.2.2.2.1 (un i) ^^^ x), σ.2.2.2.2)) else (.inr 0, σ)) else (.inr 2, σ)
def opBad (n : Nat) (σ : St) : (Int32 ⊕ Nat) × St := (.inl (badG (mskd σ.1 σ.2.2.1) n n), σ)
def opByte (n : Nat) (p i : Int32) (σ : St) : (Int32 ⊕ Nat) × St := if un p < n ∧ un i < 64 then (.inl (mskd σ.1 σ.2.2.1 (un p) (un i)), σ) else (.inr 2, σ)
def opEntry (e : Int32) (σ : St) : (Int32 ⊕ Nat) × St := if un e < 2 ^ σ.1.D then (.inl (nI (σ.1.tab (un e))), σ) else (.inr 2, σ)
def opCount (n : Nat) (w : Int32) (σ : St) : (Int32 ⊕ Nat) × St := if w = 0 then (.inl (nI σ.1.D), σ) else if w = 1 then (.inl (nI σ.1.used), σ) else if w = 2 then (if nzc σ.2.2.1 (64 * n) = 0 then (.inl (nI (cnt σ.1 n)), σ) else (.inr 1, σ)) else if w = 3 then (.inl (nI σ.1.acts), σ) else if w = 4 then (.inl (nI σ.2.2.2.2.1), σ) else if w = 5 then (.inl (nI n), σ) else (.inl (-1), σ)
/-- what the calls keep -/
theorem rpl_WF {n : Nat} {J : Nat → Int32} {jl : Nat} : ∀ (m p : Nat) (S : Sh), WF n S → p ≤ 600 → jl ≤ 600 → WF n (rpl n J jl m p S).2 ∧ (rpl n J jl m p S).1 ≤ 600
  | 0, p, S, w, hp, hj => ⟨w, hp⟩
  | m + 1, p, S, w, hp, hj => by
    rw [rpl]
    by_cases c : whl J jl p = true
    · rw [if_pos c]
      unfold whl at c
      rw [decide_eq_true_eq] at c
      cases ha : accept n (nmof (un (J p)) (fun i => J (p + 1 + i))) (num J (p + 1 + un (J p))) S with
      | none => exact ⟨w, hp⟩
      | some S' => exact rpl_WF m _ S' (accept_WF (by rw [nmof_len]; exact ⟨c.2.1, c.2.2.1⟩) w ha) (by omega) hj
    · rw [if_neg c]; exact ⟨w, hp⟩
theorem un_xor_lt {x y : Int32} (hx : un x < 256) (hy : un y < 256) : un (x ^^^ y) < 256 := by
  rw [xor_un]
  exact Nat.xor_lt_two_pow (n := 8) hx hy
theorem SI_feed {n : Nat} {x : Int32} {σ : St} (i : SI n σ) : SI n (opFeed x σ).2 := by
  unfold opFeed
  by_cases c : un x < 256
  · rw [if_pos c]
    by_cases d : σ.2.2.2.2.2.length = 12
    · rw [if_pos d]; exact i
    · rw [if_neg d]
      exact ⟨i.1, i.2.1, i.2.2.1, by have := i.2.2.2.1; simp; omega, i.2.2.2.2⟩
  · rw [if_neg c]; exact i
theorem SI_clr {n : Nat} {σ : St} (i : SI n σ) : SI n (clr σ) := ⟨i.1, i.2.1, i.2.2.1, Nat.zero_le _, i.2.2.2.2⟩
theorem SI_put {n : Nat} {v : Int32} {σ : St} (i : SI n σ) : SI n (opPut n v σ).2 := by
  unfold opPut opQ
  by_cases c : nzc σ.2.2.1 (64 * n) = 0 ∧ σ.2.2.2.2.2 ≠ []
  · rw [if_pos c]
    by_cases d : 600 < σ.2.2.2.2.1 + (σ.2.2.2.2.2.length + 6)
    · rw [if_pos d]; exact SI_clr i
    · rw [if_neg d]
      cases ha : accept n σ.2.2.2.2.2 v σ.1 with
      | none => exact SI_clr i
      | some S' =>
        have hl : 1 ≤ σ.2.2.2.2.2.length := List.length_pos_iff.mpr c.2
        exact ⟨accept_WF ⟨hl, i.2.2.2.1⟩ i.1 ha, i.2.1, by show _ + _ ≤ 600; omega, Nat.zero_le _, i.2.2.2.2⟩
  · rw [if_neg c]; exact i
theorem SI_has {n : Nat} {σ : St} (i : SI n σ) : SI n (opHas n σ).2 := by
  unfold opHas opQ
  by_cases c : nzc σ.2.2.1 (64 * n) = 0 ∧ σ.2.2.2.2.2 ≠ []
  · rw [if_pos c]; exact SI_clr i
  · rw [if_neg c]; exact i
theorem SI_find {n : Nat} {σ : St} (i : SI n σ) : SI n (opFind n σ).2 := by
  unfold opFind opQ
  by_cases c : nzc σ.2.2.1 (64 * n) = 0 ∧ σ.2.2.2.2.2 ≠ []
  · rw [if_pos c]; exact SI_clr i
  · rw [if_neg c]; exact i
theorem SI_save {n : Nat} {σ : St} (i : SI n σ) : SI n (opSave n σ).2 := by
  unfold opSave
  by_cases c : nzc σ.2.2.1 (64 * n) = 0
  · rw [if_pos c]; exact ⟨i.1, i.1, Nat.zero_le _, i.2.2.2.1, i.2.2.2.2⟩
  · rw [if_neg c]; exact i
theorem SI_crash {n : Nat} {k : Int32} {σ : St} (i : SI n σ) : SI n (opCrash n k σ).2 := by
  unfold opCrash
  by_cases c : un k ≤ σ.2.2.2.2.1
  · rw [if_pos c]
    have h3 := i.2.2.1
    obtain ⟨w, hp⟩ := rpl_WF (n := n) (J := σ.2.2.2.1) (jl := un k) 600 0 σ.2.1 i.2.1 (by omega) (by omega)
    exact ⟨w, i.2.1, hp, Nat.zero_le _, fun j => (show un 0 < 256 by decide), fun j _ => rfl⟩
  · rw [if_neg c]; exact i
theorem SI_poke {n : Nat} {p k x : Int32} {σ : St} (i : SI n σ) : SI n (opPoke n p k x σ).2 := by
  unfold opPoke
  by_cases c : un p < n ∧ un k < 64
  · rw [if_pos c]
    by_cases d : 1 ≤ un x ∧ un x < 256
    · rw [if_pos d]
      refine ⟨i.1, i.2.1, i.2.2.1, i.2.2.2.1, fun j => ?_, fun j hj => ?_⟩
      · show un (upd σ.2.2.1 _ _ j) < 256
        by_cases e : j = 64 * un p + un k
        · rw [e, upd_s]; exact un_xor_lt (i.2.2.2.2.1 _) d.2
        · rw [upd_n e]; exact i.2.2.2.2.1 j
      · show upd σ.2.2.1 _ _ j = 0
        rw [upd_n (by omega)]; exact i.2.2.2.2.2 j hj
    · rw [if_neg d]; exact i
  · rw [if_neg c]; exact i
theorem SI_pokeJ {n : Nat} {k x : Int32} {σ : St} (i : SI n σ) : SI n (opPokeJ k x σ).2 := by
  unfold opPokeJ
  by_cases c : un k < 600
  · rw [if_pos c]
    by_cases d : 1 ≤ un x ∧ un x < 256
    · rw [if_pos d]; exact i
    · rw [if_neg d]; exact i
  · rw [if_neg c]; exact i
theorem op_same {n : Nat} {p k e w : Int32} {σ : St} : (opBad n σ).2 = σ ∧ (opByte n p k σ).2 = σ ∧ (opEntry e σ).2 = σ ∧ (opCount n w σ).2 = σ := by
  refine ⟨rfl, ?_, ?_, ?_⟩
  · unfold opByte; split <;> rfl
  · unfold opEntry; split <;> rfl
  · unfold opCount; split; rfl; split; rfl; split; split <;> rfl; split; rfl; split; rfl; split <;> rfl
