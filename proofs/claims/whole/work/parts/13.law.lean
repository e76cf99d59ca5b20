/-! the law by the machine: what is left is pure -/
theorem am_nt {l : Launch} (h : l.flags = flags0) : l.stackTraces = false := by
  unfold Launch.stackTraces
  rw [h]
  decide +kernel
theorem am_bw_in : ∀ w ∈ am_bw, w ∈ lw_tbl := by decide +kernel
theorem am_dw_in : ∀ y ∈ am_dw, Cond.declares y ∈ lw_tbl := by decide +kernel
theorem am_nw_in : ∀ q ∈ am_nw, Cond.methodLinkNest q.1 q.2.1 q.2.2 RX6 ∈ lw_tbl := by decide +kernel
theorem am_sR_in : ∀ q ∈ am_sR, Cond.stringRef RX6 q.1 q.2 ∈ lw_tbl := by decide +kernel
theorem am_sR_ex : ∀ q ∈ am_sR, Cond.exactly (.string RX6 q.1) "java/lang/String" ∈ flatC (Jvm.Cond.and given_1 narrow_1) := by decide +kernel
theorem am_nc_in : ∀ a ∈ am_ens, ∀ b ∈ am_ens, a ≠ b → Cond.not (.castable a b) ∈ flatC (Jvm.Cond.and given_1 narrow_1) := by decide +kernel
theorem am_st_in : Cond.isRef (.static Bundle.tN "UNASSIGNED_STACK" Bundle.steD) ∈ flatC (Jvm.Cond.and given_1 narrow_1) ∧ Cond.isRef (.static Bundle.tN "SUPPRESSED_SENTINEL" Bundle.listD) ∈ flatC (Jvm.Cond.and given_1 narrow_1) := by decide +kernel
theorem am_ls_in : Cond.laysStatic Bundle.tN "UNASSIGNED_STACK" Bundle.steD ∈ lw_tbl ∧ Cond.laysStatic Bundle.tN "SUPPRESSED_SENTINEL" Bundle.listD ∈ lw_tbl ∧ Cond.initialized Bundle.tN ∈ lw_tbl ∧ Cond.arrayOver (.object RX3) ∈ lw_tbl := by decide +kernel
theorem am_ic_in : ∀ ci, ci < 8 → Cond.instantiable (am_CN ci) (am_NN ci) ∈ lw_tbl := by decide +kernel
theorem am_arr {args : Array Value} {s : State} {ty : FieldType} (h : (Cond.arrayClass ty).before args s = true) : ∃ cA, ArrOfT s cA ty ∧ s.vm.findClass ("[" ++ ty.toString) = some cA := by
  obtain ⟨cA, kA, comp, h1, h2, h3⟩ := Cond.arrayClass_spec (args := args) (first := s) (o := none) (s := s) (idx := []) h
  exact ⟨cA, fun n z => ⟨fun k h => (by cases h), kA, h2, comp, h3⟩, h1⟩
theorem am_given {s : State} {b L : Nat} {xs : Nat → Int32} (hts : ∀ w ∈ lw_tbl, w.before #[Value.ref b] s = true) (hX : va_X b L xs s s.heap) (hbl : b < s.heap.size) (hgv : (Jvm.Cond.and given_1 narrow_1).before #[Value.ref b] s = true) :
    ∃ G : am_Ev, G.2.2.1 = s.heap.size ∧ G.2.2.2.1 = b ∧ G.2.2.2.2.1 = L ∧ G.2.2.2.2.2.1 = xs ∧ am_G G s := by
  have hfl := flat_of_before _ hgv
  have hkn : ∀ ci, ∃ (cC : ClassId) (iS : Nat → Nat), ci < 8 → u_Kn s (am_CN ci) (am_TT ci) (am_NN ci) cC iS := fun ci => by
    by_cases h : ci < 8
    · obtain ⟨cC, iS, hk⟩ := u_known (C := am_CN ci) (T := am_TT ci) (N := am_NN ci) hts (fun w hw => (List.mem_filter.mp (am_in h w hw)).1) (hts _ (am_ic_in ci h))
      exact ⟨cC, iS, fun _ => hk⟩
    · exact ⟨0, fun _ => 0, fun h' => absurd h' h⟩
  obtain ⟨dC, hdC⟩ := Classical.axiomOfChoice hkn
  obtain ⟨dI, hdI⟩ := Classical.axiomOfChoice hdC
  obtain ⟨c0, a0, b0⟩ := am_arr (hts _ (List.mem_filter.mp (am_ac_in .int (Or.inl rfl))).1)
  obtain ⟨c1, a1, b1⟩ := am_arr (hts _ (List.mem_filter.mp (am_ac_in .boolean (Or.inr (Or.inl rfl)))).1)
  obtain ⟨c2, a2, b2⟩ := am_arr (hts _ (List.mem_filter.mp (am_ac_in .long (Or.inr (Or.inr rfl)))).1)
  have hov := hts _ am_ls_in.2.2.2
  obtain ⟨c3, k3, comp3, a3, b3, d3, e3⟩ : ∃ (cA : ClassId) (kA : Class) (comp : ClassId), s.vm.findClass ("[" ++ (FieldType.object RX3).toString) = some cA ∧ s.vm.classes[cA]? = some kA ∧ kA.kind = .array comp (.object RX3) ∧ s.vm.findClass RX3 = some comp := by
    obtain ⟨comp, c, k, q1, -, q3, q4, q5⟩ := Cond.arrayOver_spec (args := #[Value.ref b]) (first := s) (o := none) (s := s) (idx := []) hov
    exact ⟨c, k, comp, q5, q3, q4, q1⟩
  have hst : ∀ k : Nat, ∃ a : Nat, ∀ q ∈ am_sR, q.1 = k → vk_R RX6 q.1 q.2 a s := fun k => by
    by_cases hk : ∃ q ∈ am_sR, q.1 = k
    · obtain ⟨q, hq, rfl⟩ := hk
      obtain ⟨a, c, cA, kA, q1, -⟩ := Cond.exactly_spec (args := #[Value.ref b]) (first := s) (o := none) (s := s) (idx := []) (t := .string RX6 q.1) (cls := "java/lang/String") (hfl _ (am_sR_ex q hq))
      exact ⟨a, fun q' hq' he => vk_R.of (A := #[Value.ref b]) (hts _ (am_sR_in q' hq')) (by rw [he]; exact q1)⟩
    · exact ⟨0, fun q hq he => absurd ⟨q, hq, he⟩ hk⟩
  obtain ⟨sa, hsa⟩ := Classical.axiomOfChoice hst
  have hA : ∀ a : Nat, a < s.heap.size → ¬ am_A s.heap.size a := fun a h => Nat.not_le.mpr h
  refine ⟨((dC, dI), fun k => if k = 0 then c0 else if k = 1 then c1 else if k = 2 then c2 else c3, s.heap.size, b, L, xs, sa), rfl, rfl, rfl, rfl, ⟨fun ci q hq => ?_, fun k q hq => ?_⟩, hX, hbl, Nat.le_refl _,
    vx_Zqof (hts _ am_ls_in.1) (hts _ am_ls_in.2.2.1) (hfl _ am_st_in.1) hA, vx_Zqof (hts _ am_ls_in.2.1) (hts _ am_ls_in.2.2.1) (hfl _ am_st_in.2) hA, va_AO.of hov, fun w hw => ?_,
    fun w hw => va_Nw.of rfl (hts _ (am_dw_in w hw)), fun q hq => va_Nw.of rfl (hts _ (am_nw_in q hq)), fun q hq => hsa q.1 q hq rfl, fun a ha b hb hab => va_Nc.of (hfl _ (am_nc_in a ha b hb hab))⟩
  · have h8 : ci < 8 := by
      have := (List.getElem?_eq_some_iff.mp hq).1
      exact this
    rw [am_cl_at h8] at hq
    cases hq
    exact hdI ci h8
  · match k, hq with
    | 0, hq => cases hq; exact ⟨a0, b0⟩
    | 1, hq => cases hq; exact ⟨a1, b1⟩
    | 2, hq => cases hq; exact ⟨a2, b2⟩
    | 3, hq => cases hq; exact ⟨fun n z => ⟨fun k h => (by cases h), k3, b3, comp3, d3⟩, k3, comp3, b3, d3, e3, a3⟩
    | k + 4, hq => simp [am_tys] at hq
  · have h := hts _ (am_bw_in w hw)
    simp only [am_bw, List.mem_cons, List.not_mem_nil, or_false] at hw
    rcases hw with rfl | rfl | rfl <;> exact va_Nw.of rfl h
set_option maxHeartbeats 4000000 in
theorem am_law {p : Program} {e : Env} {s : State} {m : MethodId} {below : List Frame} {meth : Method} {c : Code} {l : Launch} (hst : l.stackTraces = false) {b L : Nat} {xs : Nat → Int32} (C0 : lw_At p s m meth c b L xs) (htab : c.exceptionTable.toList = [])
    (hrun : ∃ σ' : am_S, cl 135 [.ref b] (fun a => if a = b then some (.inl (4, L, .inl xs)) else none, s.heap.size, 0, 0) = some (.inl (some (.int 1)), σ') ∧ σ'.2.2.1 ≤ 603072 ∧ σ'.2.2.2 ≤ 7190184) :
    W p l e room_1 s m #[Value.ref b] below meth c s.heap [] 0 0 (lw_Z below #[Value.ref b] s) (entryFrame m ([Value.ref b] : List Value).toArray 7) := by
  obtain ⟨hx, hb, hr, hml, hown, hts, hX, hbl, hlocks, hgv⟩ := C0
  obtain ⟨G, g1, g2, g3, g4, hG⟩ := am_given hts hX hbl hgv
  obtain ⟨σ', hc, hk, hs⟩ := hrun
  obtain ⟨n, hn⟩ := am_run_ex hc
  have hXX : am_X 135 p l room_1 s m #[Value.ref b] meth c := ⟨hx, hb, hr, hml, hown, fun w hw => hts w (List.mem_filter.mp hw).1, hlocks, by rw [htab]; rfl, fun h => absurd h (by decide +kernel), by decide +kernel, by decide +kernel, hst⟩
  have hP : am_P G (fun a => if a = b then some (.inl (4, L, .inl xs)) else none, s.heap.size, 0, 0) s.heap := by
    refine ⟨[], fun k q h => by simp [va_pl] at h, ⟨fun i j p q h => by simp [va_pl] at h, fun k q h => by simp [va_pl] at h⟩, fun a c ha => ?_, fun _ => rfl⟩
    dsimp only at ha
    by_cases hab : a = b
    · rw [if_pos hab] at ha
      cases ha
      exact Or.inr ⟨hab.trans g2.symm, by rw [g3, g4]⟩
    · rw [if_neg hab] at ha
      cases ha
  rw [lg_entry_eq]
  have := am_sound hst (G := G) n 135 0 _ [] _ _ hn (by decide) (p := p) (e := e) (below := below) (k0 := 0) (s0 := 0) (locs := []) hXX hG hP va_S.rf (am_L_entry (As := [.ref b]) (show 1 ≤ am_nL 135 by decide +kernel) (by intro v hv; rw [List.mem_singleton] at hv; subst hv; rfl)) (Nat.le_refl _) (Nat.le_refl _) (fun _ => rfl) hk hs
  intro T hT X
  obtain ⟨t, q1, o, q2, q3, q4⟩ := this T hT X
  refine ⟨t, q1, o, q2, q3, ?_⟩
  rcases q4 with ⟨⟨rfl, -, -⟩, Lc, ⟨f1, f2, f3⟩, hLc⟩ | ⟨q, -, E, ce, Lc, hX, -⟩
  · refine ⟨rfl, f1, f2, f3.weaken (fun y hy hlt => ?_) hk hs⟩
    have := hLc y hy
    rw [show am_A G.2.2.1 y.base = (G.2.2.1 ≤ y.base) from rfl, g1] at this
    exact absurd hlt (Nat.not_lt.mpr this)
  · exact hX.elim
