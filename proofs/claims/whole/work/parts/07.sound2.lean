/-! soundness, second part: the world, and steps over the heap -/
abbrev am_T : List Cond := lw_tbl.filter goodWord
def am_TT (ci : Nat) : u_T := (amCl.getD ci (RX0, TX0, 0)).2.1
def am_CN (ci : Nat) : String := (amCl.getD ci (RX0, TX0, 0)).1
def am_NN (ci : Nat) : Nat := (amCl.getD ci (RX0, TX0, 0)).2.2
def am_tyT (ci k : Nat) : FieldType := match ci with
  | 0 => tyX0 k
  | 1 => tyX1 k
  | 2 => tyX2 k
  | 3 => tyX3 k
  | 4 => tyX4 k
  | 5 => tyX5 k
  | 6 => tyX6 k
  | _ => tyX7 k
theorem am_cl_at {ci : Nat} (h : ci < 8) : amCl[ci]? = some (am_CN ci, am_TT ci, am_NN ci) := by
  match ci, h with
  | 0, _ => rfl
  | 1, _ => rfl
  | 2, _ => rfl
  | 3, _ => rfl
  | 4, _ => rfl
  | 5, _ => rfl
  | 6, _ => rfl
  | 7, _ => rfl
theorem am_in {ci : Nat} (h : ci < 8) : ∀ w ∈ u_ws (am_CN ci) (am_TT ci) (am_NN ci), w ∈ am_T := by
  match ci, h with
  | 0, _ => exact fun w hw => List.mem_filter.mpr ⟨inX0 w hw, (show ∀ w ∈ wsX00, goodWord w = true by decide +kernel) w hw⟩
  | 1, _ => exact fun w hw => List.mem_filter.mpr ⟨inX1 w hw, (show ∀ w ∈ wsX10, goodWord w = true by decide +kernel) w hw⟩
  | 2, _ => exact fun w hw => List.mem_filter.mpr ⟨inX2 w hw, (show ∀ w ∈ wsX20, goodWord w = true by decide +kernel) w hw⟩
  | 3, _ => exact fun w hw => List.mem_filter.mpr ⟨inX3 w hw, (show ∀ w ∈ wsX30, goodWord w = true by decide +kernel) w hw⟩
  | 4, _ => exact fun w hw => List.mem_filter.mpr ⟨inX4 w hw, (show ∀ w ∈ wsX40, goodWord w = true by decide +kernel) w hw⟩
  | 5, _ => exact fun w hw => List.mem_filter.mpr ⟨inX5 w hw, (show ∀ w ∈ wsX50, goodWord w = true by decide +kernel) w hw⟩
  | 6, _ => exact fun w hw => List.mem_filter.mpr ⟨inX6 w hw, (show ∀ w ∈ wsX60, goodWord w = true by decide +kernel) w hw⟩
  | 7, _ => exact fun w hw => List.mem_filter.mpr ⟨inX7 w hw, (show ∀ w ∈ wsX70, goodWord w = true by decide +kernel) w hw⟩
theorem am_ty_ok {ci : Nat} (h : ci < 8) : ∀ k, k < am_NN ci → parseFieldDescriptor (am_TT ci k).2.2.1 = some (am_tyT ci k) := by
  match ci, h with
  | 0, _ => exact tyX0_ok
  | 1, _ => exact tyX1_ok
  | 2, _ => exact tyX2_ok
  | 3, _ => exact tyX3_ok
  | 4, _ => exact tyX4_ok
  | 5, _ => exact tyX5_ok
  | 6, _ => exact tyX6_ok
  | 7, _ => exact tyX7_ok
theorem am_nm {ci : Nat} (h : ci < 8) : ∀ a, a < am_NN ci → ∀ b, b < am_NN ci → a ≠ b → (am_TT ci a).2.1 ≠ (am_TT ci b).2.1 := by
  match ci, h with
  | 0, _ => exact nmX0
  | 1, _ => exact nmX1
  | 2, _ => exact nmX2
  | 3, _ => exact nmX3
  | 4, _ => exact nmX4
  | 5, _ => exact nmX5
  | 6, _ => exact nmX6
  | 7, _ => exact nmX7
def am_isR (t : FieldType) : Bool := match t with
  | .object _ => true
  | .array _ => true
  | _ => false
theorem am_isR_fit {t : FieldType} (h : am_isR t = true) (a : Nat) : narrow t (.ref a) = .ref a ∧ fits t (.ref a) = true := by
  cases t <;> first | (cases h; done) | exact ⟨rfl, rfl⟩
def am_fG (q : (Nat × Nat) × (Nat × Nat × Bool × Bool)) : Bool :=
  decide (q.2.1 < 8) && decide (q.2.2.1 < am_NN q.2.1) && decide ((am_TT q.2.1 q.2.2.1).2.2.2 = q.2.2.2.2) && decide ((am_TT q.2.1 q.2.2.1).1 = am_on q.2.1) &&
  (if q.2.2.2.1 then decide (am_tyT q.2.1 q.2.2.1 = .int) else am_isR (am_tyT q.2.1 q.2.2.1))
def am_fW (q : (Nat × Nat) × (Nat × Nat × Bool × Bool)) : Cond := .fieldLink (am_on q.1.1) q.1.2 (am_TT q.2.1 q.2.2.1).1 (am_TT q.2.1 q.2.2.1).2.1 (am_TT q.2.1 q.2.2.1).2.2.1
theorem am_fT_ok : ∀ q ∈ am_fT, am_fG q = true := by decide +kernel
theorem am_fT_in : ∀ q ∈ am_fT, am_fW q ∈ lw_tbl := by decide +kernel
theorem am_fT_T : ∀ q ∈ am_fT, am_fW q ∈ am_T := fun q hq => List.mem_filter.mpr ⟨am_fT_in q hq, rfl⟩
theorem am_fT_spec {o i ci k : Nat} {isI fin : Bool} (h : am_fT.lookup (o, i) = some (ci, k, isI, fin)) : ci < 8 ∧ k < am_NN ci ∧ (am_TT ci k).2.2.2 = fin ∧ (am_TT ci k).1 = am_on ci ∧ (isI = true → am_tyT ci k = .int) ∧ (isI = false → am_isR (am_tyT ci k) = true) ∧
    Cond.fieldLink (am_on o) i (am_TT ci k).1 (am_TT ci k).2.1 (am_TT ci k).2.2.1 ∈ am_T := by
  have h1 := am_fT_ok _ (am_lk h)
  have h2 := am_fT_T _ (am_lk h)
  simp only [am_fG, Bool.and_eq_true, decide_eq_true_eq] at h1
  obtain ⟨⟨⟨⟨a1, a2⟩, a3⟩, a4⟩, a5⟩ := h1
  refine ⟨a1, a2, a3, a4, fun h => ?_, fun h => ?_, h2⟩
  · rw [h] at a5; simpa using a5
  · rw [h] at a5; simpa using a5
theorem am_fitS {isI : Bool} {v : Value} {t : FieldType} (h : am_fit isI v = true) (h1 : isI = true → t = .int) (h2 : isI = false → am_isR t = true) : narrow t v = v ∧ fits t v = true := by
  unfold am_fit at h
  split at h
  · rw [h1 rfl]; exact ⟨rfl, rfl⟩
  · exact am_isR_fit (h2 rfl) _
  · cases h
/-- the given of a run: classes' numbers, array classes, where the new cells begin, the script's cell, its length, its ints, the texts' cells -/
abbrev am_Ev : Type := va_G × (Nat → ClassId) × Nat × Nat × Nat × (Nat → Int32) × (Nat → Nat)
def am_cv (cy : Nat → ClassId) (c : Option va_E) : va_E := match c with
  | some (.inl (t, x)) => .inl (cy t, x)
  | some (.inr x) => .inr x
  | none => .inr (99, [])
def am_tys (cy : Nat → ClassId) : List (ClassId × FieldType) := [(cy 0, .int), (cy 1, .boolean), (cy 2, .long), (cy 3, .object RX3)]
abbrev am_A (b : Nat) : Nat → Prop := fun q => b ≤ q
def am_tk (c : va_E) : Prop := ∀ t x, c = .inl (t, x) → t < 4
def am_P (G : am_Ev) (σ : am_S) (H : Heap) : Prop :=
  ∃ ad : List Nat, va_P G.1 amCl (va_pl ad (fun a => am_cv G.2.1 (σ.1 a))) H ∧ va_D (am_A G.2.2.1) (va_pl ad (fun a => am_cv G.2.1 (σ.1 a))) ∧
    (∀ (a : Nat) (c : va_E), σ.1 a = some c → (a ∈ ad ∧ am_tk c) ∨ (a = G.2.2.2.1 ∧ c = .inl (4, G.2.2.2.2.1, .inl G.2.2.2.2.2.1))) ∧ (σ.2.1 ≠ 0 → H.size = σ.2.1)
def am_bw : List Cond := [.castable "java/lang/IllegalArgumentException" "java/lang/IllegalArgumentException", .castable "java/lang/IllegalStateException" "java/lang/IllegalStateException", .castable "java/lang/ArrayIndexOutOfBoundsException" "java/lang/ArrayIndexOutOfBoundsException"]
def am_dw : List MethodName := [⟨"java/lang/RuntimeException", "<init>", "(Ljava/lang/String;)V"⟩, ⟨"java/lang/Exception", "<init>", "(Ljava/lang/String;)V"⟩, ⟨"java/lang/Throwable", "<init>", "(Ljava/lang/String;)V"⟩, ⟨"java/lang/IndexOutOfBoundsException", "<init>", "(Ljava/lang/String;)V"⟩]
def am_nw : List (String × Nat × MethodName) := [(RX6, 9, yX1_init), (RX6, 18, yX2_init), (RX5, 11, yX3_init)]
def am_sR : List (Nat × String) := [(56, "not a byte"), (163, "a page is altered"), (167, "no name is fed"), (100, "the journal is not so long"), (169, "no such byte of a page"), (171, "not a mask"), (127, "no such byte of the journal"), (144, "no such entry")]
/-- what is known where a method is entered -/
def am_G (G : am_Ev) (s : State) : Prop :=
  va_K G.1 amCl (am_tys G.2.1) s ∧ va_X G.2.2.2.1 G.2.2.2.2.1 G.2.2.2.2.2.1 s s.heap ∧ G.2.2.2.1 < G.2.2.1 ∧ G.2.2.1 ≤ s.heap.size ∧
  vx_Zq Bundle.tN "UNASSIGNED_STACK" Bundle.steD (am_A G.2.2.1) s s.heap ∧ vx_Zq Bundle.tN "SUPPRESSED_SENTINEL" Bundle.listD (am_A G.2.2.1) s s.heap ∧
  va_AO RX3 s ∧ (∀ w ∈ am_bw, va_Nw w s) ∧ (∀ w ∈ am_dw, va_Nw (.declares w) s) ∧ (∀ q ∈ am_nw, va_Nw (.methodLinkNest q.1 q.2.1 q.2.2 RX6) s) ∧
  (∀ q ∈ am_sR, vk_R RX6 q.1 q.2 (G.2.2.2.2.2.2 q.1) s) ∧ (∀ a ∈ am_ens, ∀ b ∈ am_ens, a ≠ b → va_Nc a b s)
theorem am_P.at {G : am_Ev} {σ : am_S} {H : Heap} (h : am_P G σ H) : ∃ ws : va_W, va_P G.1 amCl ws H ∧ va_D (am_A G.2.2.1) ws ∧
    (∀ (a : Nat) (c : va_E), σ.1 a = some c → am_tk c → ∃ k : Nat, ws[k]? = some (a, am_cv G.2.1 (some c)) ∧ ∀ (c1 : va_E) (H1 : Heap), am_tk c1 → (σ.2.1 ≠ 0 → H1.size = σ.2.1) → va_P G.1 amCl (ws.set k (a, am_cv G.2.1 (some c1))) H1 → va_D (am_A G.2.2.1) (ws.set k (a, am_cv G.2.1 (some c1))) → am_P G (am_up σ.1 a c1, σ.2) H1) := by
  obtain ⟨ad, hP, hD, hA, hZ⟩ := h
  refine ⟨_, hP, hD, fun a c ha ht => ?_⟩
  have hm : a ∈ ad := by
    rcases hA a c ha with h | ⟨-, h⟩
    · exact h.1
    · exact absurd (ht _ _ h) (Nat.lt_irrefl 4)
  obtain ⟨k, hk⟩ := va_pl_get (X := []) (f := fun a => am_cv G.2.1 (σ.1 a)) hm
  have hk' : (va_pl ad (fun a => am_cv G.2.1 (σ.1 a)))[k]? = some (a, am_cv G.2.1 (some c)) := by rw [← ha]; exact hk
  refine ⟨k, hk', fun c1 H1 ht1 hz1 hP1 hD1 => ?_⟩
  have he : (va_pl ad (fun a => am_cv G.2.1 (σ.1 a))).set k (a, am_cv G.2.1 (some c1)) = va_pl ad (fun x => am_cv G.2.1 (am_up σ.1 a c1 x)) := by
    have h1 := va_pl_set (A := am_A G.2.2.1) (X := []) (f := fun a => am_cv G.2.1 (σ.1 a)) (e := am_cv G.2.1 (some c1)) hD hm hk
    rw [List.nil_append, List.nil_append] at h1
    rw [h1]
    congr 1
    funext x
    by_cases hx : x = a
    · subst hx; simp [va_up, am_up]
    · simp [va_up, am_up, hx]
  rw [he] at hP1 hD1
  refine ⟨ad, hP1, hD1, fun x cx hx => ?_, hz1⟩
  by_cases hxa : x = a
  · subst hxa
    have hx2 : am_up σ.1 x c1 x = some cx := hx
    rw [show am_up σ.1 x c1 x = some c1 by simp [am_up]] at hx2
    cases hx2
    exact Or.inl ⟨hm, ht1⟩
  · have hx2 : am_up σ.1 a c1 x = some cx := hx
    rw [show am_up σ.1 a c1 x = σ.1 x by simp [am_up, hxa]] at hx2
    exact hA x cx hx2
theorem am_P.new {G : am_Ev} {σ : am_S} {H H1 : Heap} {c : va_E} {kc ks : Nat} (h : am_P G σ H) (hn : σ.2.1 ≠ 0) (hb : G.2.2.1 ≤ H.size) (hs : G.2.2.2.1 < G.2.2.1) (ht : am_tk c) (hz : H1.size = H.size + 1) (ho : ∀ q, q < H.size → H1[q]? = H[q]?) (hc : va_at G.1 amCl (H.size, am_cv G.2.1 (some c)) H1) :
    am_P G (am_up σ.1 σ.2.1 c, σ.2.1 + 1, kc, ks) H1 := by
  obtain ⟨ad, hP, hD, hA, hZ⟩ := h
  have hs1 := hZ hn
  have hlt : ∀ x ∈ ad, x < H.size := fun x hx => by
    obtain ⟨k, hk⟩ := va_pl_get (X := []) (f := fun a => am_cv G.2.1 (σ.1 a)) hx
    exact (hP k _ hk).lt
  have hnm : σ.2.1 ∉ ad := fun hx => by have := hlt _ hx; omega
  have he : va_pl ad (fun a => am_cv G.2.1 (σ.1 a)) ++ [(σ.2.1, am_cv G.2.1 (some c))] = va_pl (ad ++ [σ.2.1]) (fun x => am_cv G.2.1 (am_up σ.1 σ.2.1 c x)) := by
    rw [va_pl_push hnm]
    congr 1
    funext x
    by_cases hx : x = σ.2.1
    · rw [hx]; simp [va_up, am_up]
    · simp [va_up, am_up, hx]
  refine ⟨ad ++ [σ.2.1], ?_, ?_, fun x cx hx => ?_, fun _ => by show H1.size = σ.2.1 + 1; omega⟩
  · show va_P G.1 amCl (va_pl (ad ++ [σ.2.1]) (fun x => am_cv G.2.1 (am_up σ.1 σ.2.1 c x))) H1
    rw [← he]
    refine (hP.kept (fun k x hx => ho x.1 ((hP k x hx).lt))).app (fun k x hx => ?_)
    have hz0 : k < 1 := (List.getElem?_eq_some_iff.mp hx).1
    rw [show k = 0 by omega] at hx
    cases hx
    rw [← hs1]
    exact hc
  · show va_D (am_A G.2.2.1) (va_pl (ad ++ [σ.2.1]) (fun x => am_cv G.2.1 (am_up σ.1 σ.2.1 c x)))
    rw [← he]
    exact hD.push hP hs1.symm (show G.2.2.1 ≤ σ.2.1 by omega)
  · by_cases hxa : x = σ.2.1
    · rw [hxa] at hx
      have : am_up σ.1 σ.2.1 c σ.2.1 = some c := by simp [am_up]
      rw [show (am_up σ.1 σ.2.1 c, σ.2.1 + 1, kc, ks).1 σ.2.1 = some c from this] at hx
      cases hx
      exact Or.inl ⟨by rw [hxa]; simp, ht⟩
    · have : am_up σ.1 σ.2.1 c x = σ.1 x := by simp [am_up, hxa]
      rw [show (am_up σ.1 σ.2.1 c, σ.2.1 + 1, kc, ks).1 x = σ.1 x from this] at hx
      rcases hA x cx hx with h | h
      · exact Or.inl ⟨List.mem_append_left _ h.1, h.2⟩
      · exact Or.inr h
theorem am_S_tr {A : Nat → Prop} {H0 H H1 : Heap} {locs locs1 : List Loc} (h : va_S A H0 H locs) (h1 : va_S A H H1 locs1) : va_S A H0 H1 locs1 := ⟨Nat.le_trans h.1 h1.1, fun q hq hn => (h1.2.1 q (Nat.lt_of_lt_of_le hq h.1) hn).trans (h.2.1 q hq hn), h1.2.2⟩
theorem am_S_rf {A : Nat → Prop} {H0 H : Heap} {locs : List Loc} (h : va_S A H0 H locs) : va_S A H H locs := ⟨Nat.le_refl _, fun _ _ _ => rfl, h.2.2⟩
theorem am_sz {p : Program} {l : Launch} {e : Env} {R : Room} {s : State} {m : MethodId} {args : Array Value} {below : List Frame} {meth : Method} {c : Code} {H : Heap} {locs : List Loc} {cells slots : Nat} {Q : State → Prop} {g : JFrame} (k : H.size ≤ s.heap.size + cells → W p l e R s m args below meth c H locs cells slots Q g) : W p l e R s m args below meth c H locs cells slots Q g :=
  fun T hT X => k (by rw [← hT]; exact X.heapSize) T hT X
theorem am_ixS {j : Int32} {n : Nat} (h : am_ix j n) : vp_in j n := vp_in_iff.mpr h
