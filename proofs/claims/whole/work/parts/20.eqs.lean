/-! equations of the machine -/
theorem am_stuck {c : am_C} (h : am_step c = none) : am_run c = none := by
  cases hr : am_run c with
  | none => rfl
  | some r =>
    obtain ⟨n, hn⟩ := am_run_ex hr
    cases n with
    | zero => simp [am_ex] at hn
    | succ n => rw [am_ex, h] at hn; cases hn
def am_gf (c : Option va_E) (ci j : Nat) (k : Value → Option am_R) : Option am_R := match c with
  | some (.inr (cj, fs)) => if cj = ci then (match fs[j]? with
    | some v => k v
    | none => none) else none
  | _ => none
def am_pf (c : Option va_E) (ci j : Nat) (k : List Value → Option am_R) : Option am_R := match c with
  | some (.inr (cj, fs)) => if cj = ci ∧ j < fs.length then k fs else none
  | _ => none
def am_al0 (c : Option va_E) (j : Int32) (k : Int32 → Option am_R) : Option am_R := match c with
  | some (.inl (t, n, .inl f)) => if (t = 0 ∨ t = 4) ∧ am_ix j n then k (f j.toNatClampNeg) else none
  | _ => none
def am_al1 (c : Option va_E) (j : Int32) (k : Int32 → Option am_R) : Option am_R := match c with
  | some (.inl (t, n, .inl f)) => if t = 1 ∧ am_ix j n then k (f j.toNatClampNeg) else none
  | _ => none
def am_ll (c : Option va_E) (j : Int32) (k : Int64 → Option am_R) : Option am_R := match c with
  | some (.inl (t, n, .inr (.inl f))) => if t = 2 ∧ am_ix j n then k (f j.toNatClampNeg) else none
  | _ => none
def am_rl (c : Option va_E) (j : Int32) (k : Option Nat → Option am_R) : Option am_R := match c with
  | some (.inl (t, n, .inr (.inr (.inr (.inr f))))) => if t = 3 ∧ am_ix j n then k (f j.toNatClampNeg) else none
  | _ => none
def am_is (c : Option va_E) (j : Int32) (k : Nat → (Nat → Int32) → Option am_R) : Option am_R := match c with
  | some (.inl (t, n, .inl f)) => if t = 0 ∧ am_ix j n then k n f else none
  | _ => none
def am_bs (c : Option va_E) (j : Int32) (k : Nat → (Nat → Int32) → Option am_R) : Option am_R := match c with
  | some (.inl (t, n, .inl f)) => if t = 1 ∧ am_ix j n then k n f else none
  | _ => none
def am_ls (c : Option va_E) (j : Int32) (k : Nat → (Nat → Int64) → Option am_R) : Option am_R := match c with
  | some (.inl (t, n, .inr (.inl f))) => if t = 2 ∧ am_ix j n then k n f else none
  | _ => none
def am_rs (c d : Option va_E) (j : Int32) (k : Nat → (Nat → Option Nat) → Option am_R) : Option am_R := match c, d with
  | some (.inl (t, n, .inr (.inr (.inr (.inr f))))), some (.inr (cj, _)) => if t = 3 ∧ cj = 3 ∧ am_ix j n then k n f else none
  | _, _ => none
def am_ln (c : Option va_E) (k : Nat → Option am_R) : Option am_R := match c with
  | some (.inl (t, x)) => if t < 5 then k x.1 else none
  | _ => none
def am_cp (c d : Option va_E) (sp dp n : Int32) (k : Nat → (Nat → Int32) → Option am_R) : Option am_R := match c, d with
  | some (.inl (t0, n0, .inl f)), some (.inl (t1, n1, .inl g)) => if t0 = 0 ∧ t1 = 0 ∧ ¬ sp < 0 ∧ ¬ dp < 0 ∧ ¬ n < 0 ∧ sp.toNatClampNeg + n.toNatClampNeg ≤ n0 ∧ dp.toNatClampNeg + n.toNatClampNeg ≤ n1 then k n1 (va_cpy f g sp.toNatClampNeg dp.toNatClampNeg n.toNatClampNeg) else none
  | _, _ => none
def am_ck (c : Option va_E) (cj : Nat) (X : Option am_R) : Option am_R := match c with
  | some (.inr (c', _)) => if c' = cj then X else none
  | _ => none
def am_bd (x : Option am_R) (k : Option Value → am_S → Option am_R) : Option am_R := match x with
  | some (.inl v, σ) => k v σ
  | some (.inr E, σ) => some (.inr E, σ)
  | none => none
def am_bi (x : Option am_R) (k : Option Value → am_S → Option am_R) : Option am_R := match x with
  | some (.inl v, σ) => k v σ
  | _ => none
def am_bh (x : Option am_R) (k : Option Value → am_S → Option am_R) (kh : Nat → am_S → Option am_R) : Option am_R := match x with
  | some (.inl v, σ) => k v σ
  | some (.inr E, σ) => kh E σ
  | none => none
noncomputable def am_th (M pc : Nat) (ls : List Value) (E : Nat) (σ : am_S) : Option am_R := match am_ct M pc ls E σ (am_hh M) with
  | some x => am_fin x am_run
  | none => none
section
variable {M pc : Nat} {ls st : List Value} {σ : am_S}
theorem eq_n {i : Instr} {len pc' : Nat} {ls' st' : List Value} (hd : decode (am_cod M) pc = .ok (i, len)) (h : am_i1 (am_own M) i len pc ls st = some (pc', ls', st')) : rn M pc ls st σ = rn M pc' ls' st' σ :=
  am_next (by unfold am_step; dsimp only; rw [hd]; dsimp only; rw [h])
theorem eq_b {b : Prop} [Decidable b] {i : Instr} {len tgt : Nat} {off : Int} {st' : List Value} (hd : decode (am_cod M) pc = .ok (i, len)) (h : am_i1 (am_own M) i len pc ls st = am_br b pc off ls st') (ht : (pc : Int) + off = (tgt : Int)) : rn M pc ls st σ = (if b then rn M tgt ls st' σ else rn M (pc + 3) ls st' σ) := by
  have h1 : am_i1 (am_own M) i len pc ls st = some (if b then tgt else pc + 3, ls, st') := by
    rw [h, am_br, ht, if_pos (by omega), Int.toNat_natCast]
  rw [eq_n hd h1]
  by_cases hb : b
  · rw [if_pos hb, if_pos hb]
  · rw [if_neg hb, if_neg hb]
theorem eq_n2 {i : Instr} {len pc' : Nat} {st' : List Value} {σ' : am_S} (hd : decode (am_cod M) pc = .ok (i, len)) (h0 : am_i1 (am_own M) i len pc ls st = none) (h : am_i2 M i len pc st σ = some (pc', st', σ')) : rn M pc ls st σ = rn M pc' ls st' σ' :=
  am_next (by unfold am_step; dsimp only; rw [hd]; dsimp only; rw [h0]; dsimp only; rw [h])
theorem eq_x2 {i : Instr} {len : Nat} (hd : decode (am_cod M) pc = .ok (i, len)) (h0 : am_i1 (am_own M) i len pc ls st = none) (h : am_i2 M i len pc st σ = none) (h3 : am_i3 M i len pc ls st σ = none) : rn M pc ls st σ = none :=
  am_stuck (by unfold am_step; dsimp only; rw [hd]; dsimp only; rw [h0]; dsimp only; rw [h]; exact h3)
theorem eq_d {i : Instr} {len : Nat} {r : am_R} (hd : decode (am_cod M) pc = .ok (i, len)) (h0 : am_i1 (am_own M) i len pc ls st = none) (h : am_i2 M i len pc st σ = none) (h3 : am_i3 M i len pc ls st σ = some (.inr (.inl r))) : rn M pc ls st σ = some r :=
  am_done (by unfold am_step; dsimp only; rw [hd]; dsimp only; rw [h0]; dsimp only; rw [h]; exact h3)
theorem eq_is {k : Nat} {x : Int32} (hd : decode (am_cod M) pc = .ok (.istore k, 2)) (h : k < ls.length) : rn M pc ls (.int x :: st) σ = rn M (pc + 2) (ls.set k (.int x)) st σ := eq_n hd (by simp only [am_i1, am_sto, if_true]; rw [if_pos h])
theorem eq_isn {k : Fin 4} {x : Int32} (hd : decode (am_cod M) pc = .ok (.istore_n k, 1)) (h : k.val < ls.length) : rn M pc ls (.int x :: st) σ = rn M (pc + 1) (ls.set k.val (.int x)) st σ := eq_n hd (by simp only [am_i1, am_sto, if_true]; rw [if_pos h])
theorem eq_as {k : Nat} {x : Nat} (hd : decode (am_cod M) pc = .ok (.astore k, 2)) (h : k < ls.length) : rn M pc ls (.ref x :: st) σ = rn M (pc + 2) (ls.set k (.ref x)) st σ := eq_n hd (by simp only [am_i1, am_sto, if_true]; rw [if_pos h])
theorem eq_asn {k : Fin 4} {x : Nat} (hd : decode (am_cod M) pc = .ok (.astore_n k, 1)) (h : k.val < ls.length) : rn M pc ls (.ref x :: st) σ = rn M (pc + 1) (ls.set k.val (.ref x)) st σ := eq_n hd (by simp only [am_i1, am_sto, if_true]; rw [if_pos h])
theorem eq_o {i : Instr} {len : Nat} (hd : decode (am_cod M) pc = .ok (i, len)) (h0 : am_i1 (am_own M) i len pc ls st = none) (h3 : am_i3 M i len pc ls st σ = none) : rn M pc ls st σ = (am_i2 M i len pc st σ).bind (fun q => rn M q.1 ls q.2.1 q.2.2) := by
  cases h : am_i2 M i len pc st σ with
  | none => exact eq_x2 hd h0 h h3
  | some q => exact eq_n2 hd h0 h
theorem eq_gf {k ci j a : Nat} {isI fin : Bool} (hd : decode (am_cod M) pc = .ok (.getfield k, 3)) (hf : am_fT.lookup (am_own M, k) = some (ci, j, isI, fin)) : rn M pc ls (.ref a :: st) σ = am_gf (σ.1 a) ci j (fun v => rn M (pc + 3) ls (v :: st) σ) := by
  rw [eq_o hd rfl rfl]
  simp only [am_i2, if_true, am_gf, hf]
  generalize σ.1 a = c
  match c with
  | none => rfl
  | some (.inl x) => rfl
  | some (.inr (cj, fs)) =>
    dsimp only
    by_cases h : cj = ci
    · rw [if_pos h, if_pos h]
      cases fs[j]? <;> rfl
    · rw [if_neg h, if_neg h]
      rfl
theorem eq_pf {k ci j a : Nat} {isI fin : Bool} {v : Value} (hd : decode (am_cod M) pc = .ok (.putfield k, 3)) (hf : am_fT.lookup (am_own M, k) = some (ci, j, isI, fin)) (hi : fin = true → (am_y M).name = "<init>" ∧ am_own M = ci) (hv : am_fit isI v = true) : rn M pc ls (v :: .ref a :: st) σ = am_pf (σ.1 a) ci j (fun fs => rn M (pc + 3) ls st (am_up σ.1 a (.inr (ci, fs.set j v)), σ.2)) := by
  rw [eq_o hd rfl rfl]
  simp only [am_i2, if_true, am_pf, hf]
  generalize σ.1 a = c
  match c with
  | none => rfl
  | some (.inl x) => rfl
  | some (.inr (cj, fs)) =>
    dsimp only
    by_cases h : cj = ci ∧ j < fs.length
    · rw [if_pos h, if_pos ⟨h.1, h.2, hi, hv⟩, h.1]
      rfl
    · rw [if_neg h, if_neg (fun z => h ⟨z.1, z.2.1⟩)]
      rfl
theorem eq_iaload {j : Int32} {a : Nat} (hd : decode (am_cod M) pc = .ok (.iaload, 1)) : rn M pc ls (.int j :: .ref a :: st) σ = am_al0 (σ.1 a) j (fun v => rn M (pc + 1) ls (.int v :: st) σ) := by
  rw [eq_o hd rfl rfl]
  simp only [am_i2, if_true, am_al0]
  generalize σ.1 a = c
  match c with
  | none => rfl
  | some (.inr x) => rfl
  | some (.inl (t, n, .inl f)) => dsimp only; split <;> rfl
  | some (.inl (t, n, .inr y)) => rfl
theorem eq_baload {j : Int32} {a : Nat} (hd : decode (am_cod M) pc = .ok (.baload, 1)) : rn M pc ls (.int j :: .ref a :: st) σ = am_al1 (σ.1 a) j (fun v => rn M (pc + 1) ls (.int v :: st) σ) := by
  rw [eq_o hd rfl rfl]
  simp only [am_i2, if_true, am_al1]
  generalize σ.1 a = c
  match c with
  | none => rfl
  | some (.inr x) => rfl
  | some (.inl (t, n, .inl f)) => dsimp only; split <;> rfl
  | some (.inl (t, n, .inr y)) => rfl
theorem eq_laload {j : Int32} {a : Nat} (hd : decode (am_cod M) pc = .ok (.laload, 1)) : rn M pc ls (.int j :: .ref a :: st) σ = am_ll (σ.1 a) j (fun v => rn M (pc + 1) ls (.long v :: st) σ) := by
  rw [eq_o hd rfl rfl]
  simp only [am_i2, if_true, am_ll]
  generalize σ.1 a = c
  match c with
  | none => rfl
  | some (.inr x) => rfl
  | some (.inl (t, n, .inl f)) => rfl
  | some (.inl (t, n, .inr (.inl f))) => dsimp only; split <;> rfl
  | some (.inl (t, n, .inr (.inr y))) => rfl
theorem eq_aaload {j : Int32} {a : Nat} (hd : decode (am_cod M) pc = .ok (.aaload, 1)) : rn M pc ls (.int j :: .ref a :: st) σ = am_rl (σ.1 a) j (fun v => rn M (pc + 1) ls (va_rf v :: st) σ) := by
  rw [eq_o hd rfl rfl]
  simp only [am_i2, if_true, am_rl]
  generalize σ.1 a = c
  match c with
  | none => rfl
  | some (.inr x) => rfl
  | some (.inl (t, n, .inl f)) => rfl
  | some (.inl (t, n, .inr (.inl f))) => rfl
  | some (.inl (t, n, .inr (.inr (.inl f)))) => rfl
  | some (.inl (t, n, .inr (.inr (.inr (.inl f))))) => rfl
  | some (.inl (t, n, .inr (.inr (.inr (.inr f))))) => dsimp only; split <;> rfl
theorem eq_iastore {x j : Int32} {a : Nat} (hd : decode (am_cod M) pc = .ok (.iastore, 1)) : rn M pc ls (.int x :: .int j :: .ref a :: st) σ = am_is (σ.1 a) j (fun n f => rn M (pc + 1) ls st (am_up σ.1 a (.inl (0, n, .inl (upd f j.toNatClampNeg x))), σ.2)) := by
  rw [eq_o hd rfl rfl]
  simp only [am_i2, if_true, am_is]
  generalize σ.1 a = c
  match c with
  | none => rfl
  | some (.inr y) => rfl
  | some (.inl (t, n, .inl f)) => dsimp only; split <;> rfl
  | some (.inl (t, n, .inr y)) => rfl
theorem eq_bastore {x j : Int32} {a : Nat} (hd : decode (am_cod M) pc = .ok (.bastore, 1)) : rn M pc ls (.int x :: .int j :: .ref a :: st) σ = am_bs (σ.1 a) j (fun n f => rn M (pc + 1) ls st (am_up σ.1 a (.inl (1, n, .inl (upd f j.toNatClampNeg (vp_nar .boolean x)))), σ.2)) := by
  rw [eq_o hd rfl rfl]
  simp only [am_i2, if_true, am_bs]
  generalize σ.1 a = c
  match c with
  | none => rfl
  | some (.inr y) => rfl
  | some (.inl (t, n, .inl f)) => dsimp only; split <;> rfl
  | some (.inl (t, n, .inr y)) => rfl
theorem eq_lastore {x : Int64} {j : Int32} {a : Nat} (hd : decode (am_cod M) pc = .ok (.lastore, 1)) : rn M pc ls (.long x :: .int j :: .ref a :: st) σ = am_ls (σ.1 a) j (fun n f => rn M (pc + 1) ls st (am_up σ.1 a (.inl (2, n, .inr (.inl (vp_updL f j.toNatClampNeg x)))), σ.2)) := by
  rw [eq_o hd rfl rfl]
  simp only [am_i2, if_true, am_ls]
  generalize σ.1 a = c
  match c with
  | none => rfl
  | some (.inr z) => rfl
  | some (.inl (t, n, .inl f)) => rfl
  | some (.inl (t, n, .inr (.inl f))) => dsimp only; split <;> rfl
  | some (.inl (t, n, .inr (.inr y))) => rfl
theorem eq_aastore {x : Nat} {j : Int32} {a : Nat} (hd : decode (am_cod M) pc = .ok (.aastore, 1)) : rn M pc ls (.ref x :: .int j :: .ref a :: st) σ = am_rs (σ.1 a) (σ.1 x) j (fun n f => rn M (pc + 1) ls st (am_up σ.1 a (.inl (3, n, .inr (.inr (.inr (.inr (va_up f j.toNatClampNeg (some x))))))), σ.2)) := by
  rw [eq_o hd rfl rfl]
  simp only [am_i2, if_true, am_rs]
  generalize σ.1 a = c
  generalize σ.1 x = d
  match c, d with
  | none, _ => rfl
  | some (.inr z), _ => rfl
  | some (.inl (t, n, .inl f)), _ => rfl
  | some (.inl (t, n, .inr (.inl f))), _ => rfl
  | some (.inl (t, n, .inr (.inr (.inl f)))), _ => rfl
  | some (.inl (t, n, .inr (.inr (.inr (.inl f))))), _ => rfl
  | some (.inl (t, n, .inr (.inr (.inr (.inr f))))), none => rfl
  | some (.inl (t, n, .inr (.inr (.inr (.inr f))))), some (.inl y) => rfl
  | some (.inl (t, n, .inr (.inr (.inr (.inr f))))), some (.inr y) => dsimp only; split <;> rfl
theorem eq_len {a : Nat} (hd : decode (am_cod M) pc = .ok (.arraylength, 1)) : rn M pc ls (.ref a :: st) σ = am_ln (σ.1 a) (fun n => rn M (pc + 1) ls (.int (nI n) :: st) σ) := by
  rw [eq_o hd rfl rfl]
  simp only [am_i2, if_true, am_ln]
  generalize σ.1 a = c
  match c with
  | none => rfl
  | some (.inr x) => rfl
  | some (.inl (t, y)) => dsimp only; split <;> rfl
theorem eq_cp {k m2 m3 : Nat} {n dp sp : Int32} {a a0 : Nat} (hd : decode (am_cod M) pc = .ok (.invokestatic k, 3)) (hl : am_cT.lookup (am_own M, k) = some (6, m2, m3)) : rn M pc ls [.int n, .int dp, .ref a, .int sp, .ref a0] σ = am_cp (σ.1 a0) (σ.1 a) sp dp n (fun n1 f => rn M (pc + 3) ls [] (am_up σ.1 a (.inl (0, n1, .inl f)), σ.2)) := by
  rw [eq_o hd rfl (by simp only [am_i3, hl, if_true])]
  simp only [am_i2, if_true, am_cp, hl]
  generalize σ.1 a = c
  generalize σ.1 a0 = d
  match c, d with
  | _, none => rfl
  | _, some (.inr z) => rfl
  | _, some (.inl (t, n, .inr y)) => rfl
  | none, some (.inl (t, n, .inl f)) => rfl
  | some (.inr z), some (.inl (t, n, .inl f)) => rfl
  | some (.inl (t', n', .inr y)), some (.inl (t, n, .inl f)) => rfl
  | some (.inl (t', n', .inl g)), some (.inl (t, n0, .inl f)) =>
    dsimp only
    by_cases h : t = 0 ∧ t' = 0 ∧ ¬ sp < 0 ∧ ¬ dp < 0 ∧ ¬ n < 0 ∧ sp.toNatClampNeg + n.toNatClampNeg ≤ n0 ∧ dp.toNatClampNeg + n.toNatClampNeg ≤ n'
    · rw [if_pos h, if_pos ⟨h.1, h.2.1, by simp, h.2.2⟩]; rfl
    · rw [if_neg h, if_neg (fun z => h ⟨z.1, z.2.1, z.2.2.2⟩)]; rfl
theorem am_ltk (k n : Nat) : k < n + (k + 1) := by omega
theorem am_naI {x : Int32} {h : Nat → Option va_E} {n q r : Nat} (h1 : ¬ x < 0) (h2 : ¬ 100000 < x.toNatClampNeg) : am_i2 M (.newarray .int) 2 pc (.int x :: st) (h, n + 1, q, r) = some (pc + 2, .ref (n + 1) :: st, (am_up h (n + 1) (.inl (0, x.toNatClampNeg, .inl (fun _ => 0))), n + 2, q + 1, r + x.toNatClampNeg)) := by
  unfold am_i2
  dsimp only
  rw [if_pos rfl, if_neg (by simp [h1, h2])]
theorem am_naZ {x : Int32} {h : Nat → Option va_E} {n q r : Nat} (h1 : ¬ x < 0) (h2 : ¬ 100000 < x.toNatClampNeg) : am_i2 M (.newarray .boolean) 2 pc (.int x :: st) (h, n + 1, q, r) = some (pc + 2, .ref (n + 1) :: st, (am_up h (n + 1) (.inl (1, x.toNatClampNeg, .inl (fun _ => 0))), n + 2, q + 1, r + x.toNatClampNeg)) := by
  unfold am_i2
  dsimp only
  rw [if_pos rfl, if_neg (by simp [h1, h2])]
theorem am_naL {x : Int32} {h : Nat → Option va_E} {n q r : Nat} (h1 : ¬ x < 0) (h2 : ¬ 100000 < x.toNatClampNeg) : am_i2 M (.newarray .long) 2 pc (.int x :: st) (h, n + 1, q, r) = some (pc + 2, .ref (n + 1) :: st, (am_up h (n + 1) (.inl (2, x.toNatClampNeg, .inr (.inl (fun _ => 0)))), n + 2, q + 1, r + x.toNatClampNeg)) := by
  unfold am_i2
  dsimp only
  rw [if_pos rfl, if_neg (by simp [h1, h2])]
theorem am_anE {k : Nat} {x : Int32} {h : Nat → Option va_E} {n q r : Nat} (hl : am_kT.lookup (am_own M, k) = some 3) (h1 : ¬ x < 0) (h2 : ¬ 100000 < x.toNatClampNeg) : am_i2 M (.anewarray k) 3 pc (.int x :: st) (h, n + 1, q, r) = some (pc + 3, .ref (n + 1) :: st, (am_up h (n + 1) (.inl (3, x.toNatClampNeg, .inr (.inr (.inr (.inr (fun _ => none)))))), n + 2, q + 1, r + x.toNatClampNeg)) := by
  simp only [am_i2, hl, if_true]
  rw [if_neg (by simp [h1, h2])]
theorem eq_thr {k E is ic : Nat} (hd : decode (am_cod M) pc = .ok (.new k, 3)) (hk : am_kT.lookup (am_own M, k) = none) (hh : am_hh M = []) (h3 : decode (am_cod M) (pc + 3) = .ok (.dup, 1)) (h9 : decode (am_cod M) (pc + 9) = .ok (.athrow, 1)) (h4 : decode (am_cod M) (pc + 4) = .ok (.ldc is, 2)) (h6 : decode (am_cod M) (pc + 6) = .ok (.invokespecial ic, 3)) (hx : am_xT.lookup (am_own M, k) = some E) (hs : (am_own M, is) ∈ am_sT) (hi : am_iT.lookup (am_own M, ic) = some E) :
    rn M pc ls [] σ = some (.inr E, (σ.1, 0, σ.2.2.1 + 1, σ.2.2.2 + 6)) := by
  refine eq_d hd rfl (by simp only [am_i2, hk, if_true]) ?_
  unfold am_i3
  dsimp only
  rw [if_pos ⟨rfl, hh, rfl, h3, h9⟩, hx, h4, h6]
  exact if_pos ⟨hs, hi⟩
def am_catB (l : List Value) : Bool := l.all (fun v => v.category == 1)
theorem am_catS {l : List Value} (h : am_catB l = true) : ∀ v ∈ l, v.category = 1 := fun v hv => eq_of_beq (List.all_eq_true.mp h v hv)
theorem eq_call {M' : Nat} {As rest : List Value} {ini : Bool} (h : am_step (M, pc, ls, st, σ) = some (.inr (.inr ((M', 0, As ++ List.replicate (am_nL M' - As.length) am_jk, [], σ), am_k ini M pc ls rest)))) : rn M pc ls st σ = (match cl M' As σ with
    | none => none
    | some r => (match am_k ini M pc ls rest r with
      | none => none
      | some x => am_fin x am_run)) := by
  cases hc : cl M' As σ with
  | none =>
    cases hr : rn M pc ls st σ with
    | none => rfl
    | some r =>
      obtain ⟨n, hn⟩ := am_run_ex hr
      cases n with
      | zero => simp [am_ex] at hn
      | succ n =>
        rw [am_ex, h] at hn
        dsimp only at hn
        cases h1 : am_ex n (M', 0, As ++ List.replicate (am_nL M' - As.length) am_jk, [], σ) with
        | none => simp [h1] at hn
        | some r1 =>
          have : cl M' As σ = some r1 := am_run_of h1
          rw [hc] at this
          cases this
  | some r =>
    dsimp only
    cases hk : am_k ini M pc ls rest r with
    | some x => exact am_calls h hc hk
    | none =>
      dsimp only
      cases hr : rn M pc ls st σ with
      | none => rfl
      | some r2 =>
        obtain ⟨n, hn⟩ := am_run_ex hr
        cases n with
        | zero => simp [am_ex] at hn
        | succ n =>
          rw [am_ex, h] at hn
          dsimp only at hn
          cases h1 : am_ex n (M', 0, As ++ List.replicate (am_nL M' - As.length) am_jk, [], σ) with
          | none => simp [h1] at hn
          | some r1 =>
            have h2 : cl M' As σ = some r1 := am_run_of h1
            rw [hc] at h2
            cases h2
            rw [h1] at hn
            dsimp only at hn
            rw [hk] at hn
            cases hn
theorem am_bdE {M' : Nat} {As rest : List Value} (hh : am_hh M = []) : (match cl M' As σ with
    | none => none
    | some r => (match am_k false M pc ls rest r with
      | none => none
      | some x => am_fin x am_run)) = am_bd (cl M' As σ) (fun v σ1 => rn M (pc + 3) ls (v.toList ++ rest) σ1) := by
  cases cl M' As σ with
  | none => rfl
  | some r =>
    obtain ⟨o, σ1⟩ := r
    cases o with
    | inl v => rfl
    | inr E =>
      simp only [am_k, hh, am_bd]
      rfl
theorem am_biE {M' : Nat} {As rest : List Value} : (match cl M' As σ with
    | none => none
    | some r => (match am_k true M pc ls rest r with
      | none => none
      | some x => am_fin x am_run)) = am_bi (cl M' As σ) (fun v σ1 => rn M (pc + 3) ls (v.toList ++ rest) σ1) := by
  cases cl M' As σ with
  | none => rfl
  | some r =>
    obtain ⟨o, σ1⟩ := r
    cases o with
    | inl v => rfl
    | inr E => rfl
theorem am_bhE {M' : Nat} {As rest : List Value} : (match cl M' As σ with
    | none => none
    | some r => (match am_k false M pc ls rest r with
      | none => none
      | some x => am_fin x am_run)) = am_bh (cl M' As σ) (fun v σ1 => rn M (pc + 3) ls (v.toList ++ rest) σ1) (fun E σ1 => am_th M pc ls E σ1) := by
  cases cl M' As σ with
  | none => rfl
  | some r =>
    obtain ⟨o, σ1⟩ := r
    cases o with
    | inl v => rfl
    | inr E =>
      simp only [am_k, am_bh, am_th, Bool.false_eq_true, if_false]
      cases am_ct M pc ls E σ1 (am_hh M) <;> rfl
theorem am_st3 {i : Instr} {len : Nat} {x : am_N} (hd : decode (am_cod M) pc = .ok (i, len)) (h0 : am_i1 (am_own M) i len pc ls st = none) (h : am_i2 M i len pc st σ = none) (h3 : am_i3 M i len pc ls st σ = some x) : am_step (M, pc, ls, st, σ) = some x := by
  unfold am_step; dsimp only; rw [hd]; dsimp only; rw [h0]; dsimp only; rw [h]; exact h3
def am_ckN (c : Option va_E) (cj : Nat) (X : Option am_N) : Option am_N := match c with
  | some (.inr (c', _)) => if c' = cj then X else none
  | _ => none
theorem am_vst {k M' n b : Nat} {as rest st0 : List Value} (hd : decode (am_cod M) pc = .ok (.invokevirtual k, 3)) (hl : am_cT.lookup (am_own M, k) = some (0, M', n)) (hdr : st0.drop n = .ref b :: rest) (hta : (st0.take n).reverse = as) (hle : (st0.take n).length = n) (hs : rest.length ≤ 4) (hf : am_fr M' < am_fr M ∧ n + 1 ≤ am_nL M') (hc : am_catB (.ref b :: as) = true) :
    am_step (M, pc, ls, st0, σ) = am_ckN (σ.1 b) (am_own M') (some (.inr (.inr ((M', 0, (.ref b :: as) ++ List.replicate (am_nL M' - (Value.ref b :: as).length) am_jk, [], σ), am_k false M pc ls rest)))) := by
  have hlen : as.length = n := by rw [← hta, List.length_reverse]; exact hle
  unfold am_step
  dsimp only
  rw [hd]
  dsimp only
  rw [show am_i1 (am_own M) (.invokevirtual k) 3 pc ls st0 = none from rfl]
  dsimp only
  rw [show am_i2 M (.invokevirtual k) 3 pc st0 σ = none from rfl]
  simp only [am_i3, hl, if_true, hdr]
  generalize hcc : σ.1 b = c
  match c with
  | none => rfl
  | some (.inl _) => rfl
  | some (.inr (c', fs)) =>
    simp only [am_ckN]
    by_cases h1 : c' = am_own M'
    · rw [if_pos ⟨h1, hle⟩, if_pos h1, am_call, hta, if_pos ⟨hf.1, hs, by rw [List.length_cons, hlen]; exact hf.2, am_catS hc⟩]
    · rw [if_neg (fun z => h1 z.1), if_neg h1]
theorem eq_c0 {k M' n b : Nat} {as rest st0 : List Value} (hd : decode (am_cod M) pc = .ok (.invokevirtual k, 3)) (hl : am_cT.lookup (am_own M, k) = some (0, M', n)) (hdr : st0.drop n = .ref b :: rest) (hta : (st0.take n).reverse = as) (hle : (st0.take n).length = n) (hs : rest.length ≤ 4) (hf : am_fr M' < am_fr M ∧ n + 1 ≤ am_nL M') (hc : am_catB (.ref b :: as) = true) (hh : am_hh M = []) :
    rn M pc ls st0 σ = am_ck (σ.1 b) (am_own M') (am_bd (cl M' (.ref b :: as) σ) (fun v σ1 => rn M (pc + 3) ls (v.toList ++ rest) σ1)) := by
  have h := am_vst (σ := σ) (ls := ls) hd hl hdr hta hle hs hf hc
  cases hc2 : σ.1 b with
  | none => rw [hc2] at h; exact am_stuck h
  | some x =>
    rw [hc2] at h
    cases x with
    | inl x => exact am_stuck h
    | inr x =>
      obtain ⟨c', fs⟩ := x
      simp only [am_ckN] at h
      simp only [am_ck]
      by_cases h2 : c' = am_own M'
      · rw [if_pos h2] at h ⊢
        rw [eq_call h, am_bdE hh]
      · rw [if_neg h2] at h ⊢
        exact am_stuck h
theorem eq_c0h {k M' n b : Nat} {as rest st0 : List Value} (hd : decode (am_cod M) pc = .ok (.invokevirtual k, 3)) (hl : am_cT.lookup (am_own M, k) = some (0, M', n)) (hdr : st0.drop n = .ref b :: rest) (hta : (st0.take n).reverse = as) (hle : (st0.take n).length = n) (hs : rest.length ≤ 4) (hf : am_fr M' < am_fr M ∧ n + 1 ≤ am_nL M') (hc : am_catB (.ref b :: as) = true) :
    rn M pc ls st0 σ = am_ck (σ.1 b) (am_own M') (am_bh (cl M' (.ref b :: as) σ) (fun v σ1 => rn M (pc + 3) ls (v.toList ++ rest) σ1) (fun E σ1 => am_th M pc ls E σ1)) := by
  have h := am_vst (σ := σ) (ls := ls) hd hl hdr hta hle hs hf hc
  cases hc2 : σ.1 b with
  | none => rw [hc2] at h; exact am_stuck h
  | some x =>
    rw [hc2] at h
    cases x with
    | inl x => exact am_stuck h
    | inr x =>
      obtain ⟨c', fs⟩ := x
      simp only [am_ckN] at h
      simp only [am_ck]
      by_cases h2 : c' = am_own M'
      · rw [if_pos h2] at h ⊢
        rw [eq_call h, am_bhE]
      · rw [if_neg h2] at h ⊢
        exact am_stuck h
theorem eq_c1 {k M' n : Nat} {as rest st0 : List Value} (hd : decode (am_cod M) pc = .ok (.invokestatic k, 3)) (hl : am_cT.lookup (am_own M, k) = some (1, M', n)) (hdr : st0.drop n = rest) (hta : (st0.take n).reverse = as) (hle : (st0.take n).length = n) (hs : rest.length ≤ 4) (hf : am_fr M' < am_fr M ∧ n ≤ am_nL M') (hc : am_catB as = true) (hh : am_hh M = []) :
    rn M pc ls st0 σ = am_bd (cl M' as σ) (fun v σ1 => rn M (pc + 3) ls (v.toList ++ rest) σ1) := by
  have hlen : as.length = n := by rw [← hta, List.length_reverse]; exact hle
  rw [eq_call (am_st3 hd rfl (by simp only [am_i2, hl, if_true]) (by simp only [am_i3, hl, if_true]; rw [if_pos hle, hdr, am_call, hta, if_pos ⟨hf.1, hs, by rw [hlen]; exact hf.2, am_catS hc⟩])), am_bdE hh]
theorem eq_c2 {k M' n : Nat} {as rest st0 : List Value} (hd : decode (am_cod M) pc = .ok (.invokestatic k, 3)) (hl : am_cT.lookup (am_own M, k) = some (2, M', n)) (hdr : st0.drop n = rest) (hta : (st0.take n).reverse = as) (hle : (st0.take n).length = n) (hs : rest.length ≤ 4) (hf : am_fr M' < am_fr M ∧ n ≤ am_nL M') (hc : am_catB as = true) (hh : am_hh M = []) :
    rn M pc ls st0 σ = am_bd (cl M' as σ) (fun v σ1 => rn M (pc + 3) ls (v.toList ++ rest) σ1) := by
  have hlen : as.length = n := by rw [← hta, List.length_reverse]; exact hle
  rw [eq_call (am_st3 hd rfl (by simp only [am_i2, hl, if_true]) (by simp only [am_i3, hl, if_true]; rw [if_pos hle, hdr, am_call, hta, if_pos ⟨hf.1, hs, by rw [hlen]; exact hf.2, am_catS hc⟩])), am_bdE hh]
theorem eq_c3 {k M' n b : Nat} {as rest st0 : List Value} (hd : decode (am_cod M) pc = .ok (.invokespecial k, 3)) (hl : am_cT.lookup (am_own M, k) = some (3, M', n)) (hdr : st0.drop n = .ref b :: rest) (hta : (st0.take n).reverse = as) (hle : (st0.take n).length = n) (hs : rest.length ≤ 4) (hf : am_fr M' < am_fr M ∧ n + 1 ≤ am_nL M') (hc : am_catB (.ref b :: as) = true) :
    rn M pc ls st0 σ = am_bi (cl M' (.ref b :: as) σ) (fun v σ1 => rn M (pc + 3) ls (v.toList ++ rest) σ1) := by
  have hlen : as.length = n := by rw [← hta, List.length_reverse]; exact hle
  rw [eq_call (am_st3 hd rfl (by simp only [am_i2, hl, if_true]) (by simp only [am_i3, hl, if_true, hdr]; rw [if_pos hle, am_call, hta, if_pos ⟨hf.1, hs, by rw [List.length_cons, hlen]; exact hf.2, am_catS hc⟩])), am_biE]
theorem eq_c4 {k M' n b : Nat} {as rest st0 : List Value} (hd : decode (am_cod M) pc = .ok (.invokespecial k, 3)) (hl : am_cT.lookup (am_own M, k) = some (4, M', n)) (hdr : st0.drop n = .ref b :: rest) (hta : (st0.take n).reverse = as) (hle : (st0.take n).length = n) (hs : rest.length ≤ 4) (hf : am_fr M' < am_fr M ∧ n + 1 ≤ am_nL M') (hc : am_catB (.ref b :: as) = true) :
    rn M pc ls st0 σ = am_bi (cl M' (.ref b :: as) σ) (fun v σ1 => rn M (pc + 3) ls (v.toList ++ rest) σ1) := by
  have hlen : as.length = n := by rw [← hta, List.length_reverse]; exact hle
  rw [eq_call (am_st3 hd rfl (by simp only [am_i2, hl, if_true]) (by simp only [am_i3, hl, if_true, hdr]; rw [if_pos hle, am_call, hta, if_pos ⟨hf.1, hs, by rw [List.length_cons, hlen]; exact hf.2, am_catS hc⟩])), am_biE]
end
