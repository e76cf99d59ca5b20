/-! the shelf, pure -/
def un (x : Int32) : Nat := x.toBitVec.toNat
theorem un_nI {n : Nat} (h : n < 2 ^ 31) : un (nI n) = n := pk_tn (by omega)
theorem un_inj {x y : Int32} (h : un x = un y) : x = y := by
  have : x.toBitVec = y.toBitVec := BitVec.eq_of_toNat_eq h
  exact Int32.toBitVec_inj.mp this
theorem msk_un : ∀ k, k < 31 → (msk k).toBitVec.toNat = 2 ^ k - 1 := by decide +kernel
theorem and_msk (x : Int32) {k : Nat} (hk : k < 31) : x &&& msk k = nI (un x % 2 ^ k) := pk_and x k (msk_un k hk)
theorem xor_un (x y : Int32) : un (x ^^^ y) = un x ^^^ un y := by
  unfold un
  rw [Int32.toBitVec_xor, BitVec.toNat_xor]
theorem xor0 {a b : Nat} (h : a ^^^ b = 0) : a = b := by
  apply Nat.eq_of_testBit_eq
  intro i
  have := congrArg (fun t => t.testBit i) h
  simp only [Nat.testBit_xor, Nat.zero_testBit] at this
  cases ha : a.testBit i <;> cases hb : b.testBit i <;> simp_all
theorem kin_iff {hh : Int32} {k : Nat} {x : Rc} (hk : k < 31) : kin hh k x = true ↔ un (hsh x.1) % 2 ^ k = un hh % 2 ^ k := by
  unfold kin
  rw [decide_eq_true_eq, and_msk _ hk, xor_un]
  have hlt : ∀ a : Nat, a % 2 ^ k < 2 ^ 31 := fun a => Nat.lt_of_lt_of_le (Nat.mod_lt _ (Nat.two_pow_pos k)) (Nat.pow_le_pow_right (by omega) (by omega))
  rw [show (0 : Int32) = nI 0 from rfl, nI_eq (hlt _) (by omega), Nat.xor_mod_two_pow]
  constructor
  · intro h
    exact xor0 h
  · intro h
    rw [h, Nat.xor_self]
theorem sh_un : ∀ k, k < 31 → (((nI k).toUInt32 &&& Int32.toUInt32 31).toBitVec % 32).toNat = k := by decide +kernel
theorem ush_un (x : Int32) {k : Nat} (hk : k < 31) : ((x.toUInt32 >>> ((nI k).toUInt32 &&& Int32.toUInt32 31)).toInt32 &&& 1) = nI (un x / 2 ^ k % 2) := by
  have h1 := pk_ushr x (nI k) k (sh_un k hk)
  have h2 := pk_and ((x.toUInt32 >>> ((nI k).toUInt32 &&& Int32.toUInt32 31)).toInt32) (m := 1) 1 (by decide)
  rw [h2, h1]
  rfl
theorem hbt_iff {k : Nat} {x : Rc} (hk : k < 31) : hbt k x = true ↔ un (hsh x.1) / 2 ^ k % 2 = 1 := by
  unfold hbt
  rw [ush_un _ hk, Bool.not_eq_true', decide_eq_false_iff_not, show (0 : Int32) = nI 0 from rfl, nI_eq (by omega) (by omega)]
  omega
/-- depths, records, table, D, how many are used, acts -/
abbrev Sh : Type := (Nat → Nat) × (Nat → List Rc) × (Nat → Nat) × Nat × Nat × Nat
abbrev Sh.dep (S : Sh) : Nat → Nat := S.1
abbrev Sh.rec (S : Sh) : Nat → List Rc := S.2.1
abbrev Sh.tab (S : Sh) : Nat → Nat := S.2.2.1
abbrev Sh.D (S : Sh) : Nat := S.2.2.2.1
abbrev Sh.used (S : Sh) : Nat := S.2.2.2.2.1
abbrev Sh.acts (S : Sh) : Nat := S.2.2.2.2.2
def Sh.at (S : Sh) (hh : Int32) : Nat := S.tab (un hh % 2 ^ S.D)
def updN (f : Nat → Nat) (k x : Nat) : Nat → Nat := fun j => if j = k then x else f j
def updR (f : Nat → List Rc) (k : Nat) (x : List Rc) : Nat → List Rc := fun j => if j = k then x else f j
/-- the table twice -/
def dbl (S : Sh) : Nat → Nat := fun e => if 2 ^ S.D ≤ e ∧ e < 2 ^ S.D + 2 ^ S.D then S.tab (e - 2 ^ S.D) else S.tab e
def tb1 (S : Sh) (p : Nat) : Nat → Nat := if S.dep p = S.D then dbl S else S.tab
def D1 (S : Sh) (p : Nat) : Nat := if S.dep p = S.D then S.D + 1 else S.D
def Sh.split (S : Sh) (p : Nat) : Sh :=
  (updN (updN S.dep p (S.dep p + 1)) S.used (S.dep p + 1), updR (updR S.rec p ((S.rec p).filter (fun x => !hbt (S.dep p) x))) S.used ((S.rec p).filter (hbt (S.dep p))),
    (fun e => if tb1 S p e = p ∧ e / 2 ^ S.dep p % 2 = 1 then S.used else tb1 S p e), D1 S p, S.used + 1, S.acts)
/-- what holds of a shelf of n pages -/
def WF (n : Nat) (S : Sh) : Prop :=
  S.D ≤ 5 ∧ S.used ≤ n ∧ 1 ≤ S.used ∧ n ≤ 40 ∧ (∀ e, e < 2 ^ S.D → S.tab e < S.used) ∧ (∀ p, 2 + tsz (S.rec p) ≤ 60) ∧ (∀ p, S.dep p ≤ S.D) ∧
  (∀ p x, x ∈ S.rec p → S.at (hsh x.1) = p) ∧ (∀ e e', e < 2 ^ S.D → e' < 2 ^ S.D → S.tab e = S.tab e' → e % 2 ^ S.dep (S.tab e) = e' % 2 ^ S.dep (S.tab e)) ∧
  (∀ p, ((S.rec p).map Prod.fst).Nodup) ∧ (∀ p x, x ∈ S.rec p → 1 ≤ x.1.length ∧ x.1.length ≤ 12) ∧ (∀ p, S.used ≤ p → S.rec p = [] ∧ S.dep p = 0)
theorem Sh.at_lt {n : Nat} {S : Sh} (h : WF n S) (hh : Int32) : S.at hh < S.used := h.2.2.2.2.1 _ (Nat.mod_lt _ (Nat.two_pow_pos _))
theorem pow_split {N k : Nat} : N % 2 ^ (k + 1) = N % 2 ^ k + 2 ^ k * (N / 2 ^ k % 2) := by
  rw [Nat.pow_succ, Nat.mod_mul]
theorem kin_succ {hh : Int32} {k : Nat} {x : Rc} (hk : k < 30) : kin hh (k + 1) x = (kin hh k x && (hbt k x == decide (un hh / 2 ^ k % 2 = 1))) := by
  rw [Bool.eq_iff_iff, kin_iff (by omega), Bool.and_eq_true, kin_iff (by omega), beq_iff_eq, pow_split, pow_split]
  have h1 := Nat.mod_lt (un (hsh x.1)) (Nat.two_pow_pos k)
  have h2 := Nat.mod_lt (un hh) (Nat.two_pow_pos k)
  have hb : hbt k x = decide (un (hsh x.1) / 2 ^ k % 2 = 1) := by rw [Bool.eq_iff_iff, hbt_iff (by omega), decide_eq_true_eq]
  rw [hb]
  have ha := Nat.mod_two_eq_zero_or_one (un (hsh x.1) / 2 ^ k)
  have hc := Nat.mod_two_eq_zero_or_one (un hh / 2 ^ k)
  generalize un (hsh x.1) % 2 ^ k = A at *
  generalize un hh % 2 ^ k = B at *
  generalize 2 ^ k = P at *
  rcases ha with ha | ha <;> rcases hc with hc | hc <;> rw [ha, hc] <;> simp <;> omega
/-- the table's own entry behind a doubling, at a hash -/
theorem tb1_at (S : Sh) (p : Nat) (N : Nat) : tb1 S p (N % 2 ^ D1 S p) = S.tab (N % 2 ^ S.D) := by
  unfold tb1 D1
  by_cases h : S.dep p = S.D
  · rw [if_pos h, if_pos h, pow_split]
    unfold dbl
    have h1 := Nat.mod_lt N (Nat.two_pow_pos S.D)
    have ha := Nat.mod_two_eq_zero_or_one (N / 2 ^ S.D)
    rcases ha with ha | ha
    · rw [ha, Nat.mul_zero, Nat.add_zero, if_neg (by omega)]
    · rw [ha, Nat.mul_one, if_pos (by omega), Nat.add_sub_cancel]
  · rw [if_neg h, if_neg h]
theorem D1_ge {n : Nat} {S : Sh} (h : WF n S) (p : Nat) : S.dep p + 1 ≤ D1 S p := by
  have := h.2.2.2.2.2.2.1 p
  unfold D1
  by_cases h1 : S.dep p = S.D
  · rw [if_pos h1]; omega
  · rw [if_neg h1]; have : S.dep p ≤ S.D := this; omega
theorem bit_mod {N k D : Nat} (h : k + 1 ≤ D) : N % 2 ^ D / 2 ^ k % 2 = N / 2 ^ k % 2 := by
  have e : D = k + (D - k) := by omega
  rw [e, Nat.pow_add, Nat.mod_mul_right_div_self]
  rw [show D - k = (D - k - 1) + 1 by omega, Nat.pow_succ, Nat.mul_comm, Nat.mod_mul_right_mod]
theorem split_at {n : Nat} {S : Sh} (h : WF n S) (p : Nat) (hh : Int32) : (S.split p).at hh = if S.at hh = p ∧ un hh / 2 ^ S.dep p % 2 = 1 then S.used else S.at hh := by
  show (if tb1 S p (un hh % 2 ^ D1 S p) = p ∧ un hh % 2 ^ D1 S p / 2 ^ S.dep p % 2 = 1 then S.used else tb1 S p (un hh % 2 ^ D1 S p)) = _
  rw [tb1_at, bit_mod (D1_ge h p)]
  rfl
theorem tb1_lt {n : Nat} {S : Sh} (h : WF n S) (p e : Nat) (he : e < 2 ^ D1 S p) : ∃ e0, e0 < 2 ^ S.D ∧ tb1 S p e = S.tab e0 ∧ e % 2 ^ S.D = e0 := by
  have e1 := tb1_at S p e
  rw [Nat.mod_eq_of_lt he] at e1
  exact ⟨e % 2 ^ S.D, Nat.mod_lt _ (Nat.two_pow_pos _), e1, rfl⟩
theorem mod_dep {e D d : Nat} (h : d ≤ D) : e % 2 ^ D % 2 ^ d = e % 2 ^ d := Nat.mod_mod_of_dvd e (Nat.pow_dvd_pow 2 h)
theorem dep_p {S : Sh} {p : Nat} (hp : p ≠ S.used) : (S.split p).dep p = S.dep p + 1 := by
  show updN (updN S.dep p (S.dep p + 1)) S.used (S.dep p + 1) p = _
  unfold updN
  rw [if_neg hp, if_pos rfl]
theorem dep_u {S : Sh} {p : Nat} : (S.split p).dep S.used = S.dep p + 1 := by
  show updN (updN S.dep p (S.dep p + 1)) S.used (S.dep p + 1) S.used = _
  unfold updN
  rw [if_pos rfl]
theorem dep_o {S : Sh} {p q : Nat} (h1 : q ≠ p) (h2 : q ≠ S.used) : (S.split p).dep q = S.dep q := by
  show updN (updN S.dep p (S.dep p + 1)) S.used (S.dep p + 1) q = _
  unfold updN
  rw [if_neg h2, if_neg h1]
theorem rcs_p {S : Sh} {p : Nat} (hp : p ≠ S.used) : (S.split p).rec p = (S.rec p).filter (fun x => !hbt (S.dep p) x) := by
  show updR (updR S.rec p _) S.used _ p = _
  unfold updR
  rw [if_neg hp, if_pos rfl]
theorem rcs_u {S : Sh} {p : Nat} : (S.split p).rec S.used = (S.rec p).filter (hbt (S.dep p)) := by
  show updR (updR S.rec p _) S.used _ S.used = _
  unfold updR
  rw [if_pos rfl]
theorem rcs_o {S : Sh} {p q : Nat} (h1 : q ≠ p) (h2 : q ≠ S.used) : (S.split p).rec q = S.rec q := by
  show updR (updR S.rec p _) S.used _ q = _
  unfold updR
  rw [if_neg h2, if_neg h1]
theorem WF.split {n : Nat} {S : Sh} (h : WF n S) {p : Nat} (hp : p < S.used) (hu : S.used < n) (hd : S.dep p < 5) : WF n (S.split p) := by
  have hpu : p ≠ S.used := by omega
  have hD1 : D1 S p ≤ 5 := by
    have := h.1
    unfold D1
    by_cases h1 : S.dep p = S.D
    · rw [if_pos h1]; omega
    · rw [if_neg h1]; exact this
  have hDg := D1_ge h p
  obtain ⟨a1, a2, a3, a4, a5, a6, a7, a8, a9, a10, a11, a12⟩ := id h
  have hcase : ∀ q, q = p ∨ q = S.used ∨ (q ≠ p ∧ q ≠ S.used) := fun q => by
    by_cases h1 : q = p
    · exact Or.inl h1
    · by_cases h2 : q = S.used
      · exact Or.inr (Or.inl h2)
      · exact Or.inr (Or.inr ⟨h1, h2⟩)
  have hmem : ∀ q x, x ∈ (S.split p).rec q → (q = p ∧ x ∈ S.rec p ∧ hbt (S.dep p) x = false) ∨ (q = S.used ∧ x ∈ S.rec p ∧ hbt (S.dep p) x = true) ∨ (q ≠ p ∧ q ≠ S.used ∧ x ∈ S.rec q) := fun q x hx => by
    rcases hcase q with rfl | rfl | ⟨h1, h2⟩
    · rw [rcs_p hpu, List.mem_filter] at hx
      exact Or.inl ⟨rfl, hx.1, by simpa using hx.2⟩
    · rw [rcs_u, List.mem_filter] at hx
      exact Or.inr (Or.inl ⟨rfl, hx.1, hx.2⟩)
    · rw [rcs_o h1 h2] at hx
      exact Or.inr (Or.inr ⟨h1, h2, hx⟩)
  refine ⟨hD1, hu, by show 1 ≤ S.used + 1; omega, a4, fun e he => ?_, fun q => ?_, fun q => ?_, fun q x hx => ?_, fun e e' he he' hee => ?_, fun q => ?_, fun q x hx => ?_, fun q hq => ?_⟩
  · obtain ⟨e0, g1, g2, -⟩ := tb1_lt h p e he
    have g3 : S.tab e0 < S.used := a5 e0 g1
    show (if tb1 S p e = p ∧ e / 2 ^ S.dep p % 2 = 1 then S.used else tb1 S p e) < S.used + 1
    by_cases h1 : tb1 S p e = p ∧ e / 2 ^ S.dep p % 2 = 1
    · rw [if_pos h1]; omega
    · rw [if_neg h1, g2]; omega
  · rcases hcase q with rfl | rfl | ⟨h1, h2⟩
    · rw [rcs_p hpu]; have := tsz_filter (fun x => !hbt (S.dep q) x) (S.rec q); have := a6 q; omega
    · rw [rcs_u]; have := tsz_filter (hbt (S.dep p)) (S.rec p); have := a6 p; omega
    · rw [rcs_o h1 h2]; exact a6 q
  · show _ ≤ D1 S p
    rcases hcase q with rfl | rfl | ⟨h1, h2⟩
    · rw [dep_p hpu]; exact hDg
    · rw [dep_u]; exact hDg
    · rw [dep_o h1 h2]
      have : S.dep q ≤ S.D := a7 q
      unfold D1
      by_cases h3 : S.dep p = S.D
      · rw [if_pos h3]; omega
      · rw [if_neg h3]; exact this
  · rw [split_at h]
    rcases hmem q x hx with ⟨rfl, g1, g2⟩ | ⟨rfl, g1, g2⟩ | ⟨g0, g1, g2⟩
    · have g3 : S.at (hsh x.1) = q := a8 q x g1
      rw [if_neg, g3]
      rintro ⟨-, g4⟩
      rw [← hbt_iff (by omega), g2] at g4
      cases g4
    · have g3 : S.at (hsh x.1) = p := a8 p x g1
      rw [if_pos ⟨g3, (hbt_iff (by omega)).mp g2⟩]
    · have g3 : S.at (hsh x.1) = q := a8 q x g2
      rw [if_neg (fun g4 => g0 (g3.symm.trans g4.1)), g3]
  · obtain ⟨e0, g1, g2, g3⟩ := tb1_lt h p e he
    obtain ⟨e1, k1, k2, k3⟩ := tb1_lt h p e' he'
    have ht : (S.split p).tab e = if tb1 S p e = p ∧ e / 2 ^ S.dep p % 2 = 1 then S.used else tb1 S p e := rfl
    have ht' : (S.split p).tab e' = if tb1 S p e' = p ∧ e' / 2 ^ S.dep p % 2 = 1 then S.used else tb1 S p e' := rfl
    have l0 : S.tab e0 < S.used := a5 e0 g1
    have l1 : S.tab e1 < S.used := a5 e1 k1
    have hb := Nat.mod_two_eq_zero_or_one (e / 2 ^ S.dep p)
    have hb' := Nat.mod_two_eq_zero_or_one (e' / 2 ^ S.dep p)
    have key : S.tab e0 = S.tab e1 → ∀ q, q = S.tab e0 → e % 2 ^ S.dep q = e' % 2 ^ S.dep q := fun hq q hqq => by
      have := a9 e0 e1 g1 k1 hq
      rw [← hqq] at this
      rw [← g3, ← k3, mod_dep (a7 q), mod_dep (a7 q)] at this
      exact this
    rw [ht, ht'] at hee
    rw [ht]
    by_cases c1 : tb1 S p e = p ∧ e / 2 ^ S.dep p % 2 = 1
    · rw [if_pos c1] at hee ⊢
      by_cases c2 : tb1 S p e' = p ∧ e' / 2 ^ S.dep p % 2 = 1
      · rw [dep_u, pow_split, pow_split, c1.2, c2.2, key (by rw [← g2, ← k2, c1.1, c2.1]) p (by rw [← g2, c1.1])]
      · rw [if_neg c2, k2] at hee; omega
    · rw [if_neg c1] at hee ⊢
      by_cases c2 : tb1 S p e' = p ∧ e' / 2 ^ S.dep p % 2 = 1
      · rw [if_pos c2, g2] at hee; omega
      · rw [if_neg c2, g2, k2] at hee
        rw [g2]
        by_cases c3 : S.tab e0 = p
        · have b0 : e / 2 ^ S.dep p % 2 = 0 := by
            rcases hb with hb | hb
            · exact hb
            · exact absurd ⟨g2.trans c3, hb⟩ c1
          have b1 : e' / 2 ^ S.dep p % 2 = 0 := by
            rcases hb' with hb | hb
            · exact hb
            · exact absurd ⟨k2.trans (hee.symm.trans c3), hb⟩ c2
          rw [c3, dep_p hpu, pow_split, pow_split, b0, b1, key hee p c3.symm]
        · rw [dep_o c3 (by omega)]
          exact key hee _ rfl
  · rcases hcase q with rfl | rfl | ⟨h1, h2⟩
    · rw [rcs_p hpu]; exact (a10 q).sublist ((List.filter_sublist).map _)
    · rw [rcs_u]; exact (a10 p).sublist ((List.filter_sublist).map _)
    · rw [rcs_o h1 h2]; exact a10 q
  · rcases hmem q x hx with ⟨rfl, g1, g2⟩ | ⟨rfl, g1, g2⟩ | ⟨g0, g1, g2⟩
    · exact a11 _ x g1
    · exact a11 _ x g1
    · exact a11 _ x g2
  · have hq' : S.used + 1 ≤ q := hq
    rw [rcs_o (by omega) (by omega), dep_o (by omega) (by omega)]
    exact a12 q (by omega)
/-- the page of a hash, behind a split of it: its records are those that share a bit more -/
theorem split_kin {n : Nat} {S : Sh} (h : WF n S) (hh : Int32) (hu : S.used < n) (hd : S.dep (S.at hh) < 5) : (S.split (S.at hh)).dep ((S.split (S.at hh)).at hh) = S.dep (S.at hh) + 1 ∧
    (S.split (S.at hh)).rec ((S.split (S.at hh)).at hh) = (S.rec (S.at hh)).filter (fun x => hbt (S.dep (S.at hh)) x == decide (un hh / 2 ^ S.dep (S.at hh) % 2 = 1)) := by
  have hp := S.at_lt h hh
  have hpu : S.at hh ≠ S.used := by omega
  rw [split_at h]
  by_cases hb : un hh / 2 ^ S.dep (S.at hh) % 2 = 1
  · rw [if_pos ⟨rfl, hb⟩, dep_u, rcs_u]
    refine ⟨rfl, ?_⟩
    congr 1
    funext x
    simp [hb]
  · rw [if_neg (fun z => hb z.2), dep_p hpu, rcs_p hpu]
    refine ⟨rfl, ?_⟩
    congr 1
    funext x
    simp [hb]
