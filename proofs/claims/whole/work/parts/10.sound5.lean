/-! soundness, fifth part: entries, contracts, catches, the whole -/
theorem am_lg {As : List Value} (h : ∀ v ∈ As, v.category = 1) : lg_sl As = As.map Slot.val := by
  induction As with
  | nil => rfl
  | cons a t ih =>
    have h1 : a.category = 1 := h a List.mem_cons_self
    have h2 := ih (fun v hv => h v (List.mem_cons_of_mem _ hv))
    unfold lg_sl at h2 ⊢
    rw [List.flatMap_cons, h2, if_neg (by rw [h1]; decide)]
    rfl
theorem am_L_entry {As : List Value} {n : Nat} (hn : As.length ≤ n) (hc : ∀ v ∈ As, v.category = 1) : am_L (As ++ List.replicate (n - As.length) am_jk) ((lg_sl As ++ List.replicate (n - (lg_sl As).length) Slot.unset).toArray) n := by
  have hsl := am_lg hc
  have hlen : (lg_sl As).length = As.length := by rw [hsl, List.length_map]
  have hv := lv_entry As (n := n) (by rw [hlen]; exact hn)
  refine ⟨by simp; omega, hv.1, hv.2.1, fun i v hi hj => ?_⟩
  by_cases h1 : i < As.length
  · rw [List.getElem?_append_left h1] at hi
    refine ⟨?_, hc v (List.mem_of_getElem? hi)⟩
    rw [List.getElem?_toArray, List.getElem?_append_left (by rw [hlen]; exact h1), hsl, List.getElem?_map, hi]
    rfl
  · rw [List.getElem?_append_right (by omega)] at hi
    have := List.mem_of_getElem? hi
    exact absurd (List.eq_of_mem_replicate this) hj
theorem am_setjk {ls : List Value} {k j : Nat} {v w : Value} (hj : (ls.set k am_jk)[j]? = some v) (hv : v ≠ am_jk) : (ls.set k w)[j]? = some v := by
  by_cases hjk : k = j
  · subst hjk
    by_cases hk : k < ls.length
    · rw [List.getElem?_set_self hk] at hj
      cases hj
      exact absurd rfl hv
    · rw [List.getElem?_eq_none (by rw [List.length_set]; omega)] at hj
      cases hj
  · rw [List.getElem?_set_ne hjk] at hj ⊢
    exact hj
theorem am_castW {a b : String} {s U : State} (hW : s.WarmedH U.vm) (h : va_Nw (.castable a b) s) : va_Nw (.castable a b) U := va_tabs rfl (rfl : (s.setVm U.vm).vm = U.vm) (by rw [Cond.castable_setVm hW.alike]; exact h)
theorem am_G.mv {G : am_Ev} {s U : State} {locs : List Loc} (h : am_G G s) (hW : s.WarmedH U.vm) (hS : va_S (am_A G.2.2.1) s.heap U.heap locs) : am_G G U := by
  obtain ⟨h1, h2, h3, h4, h5, h6, h7, h8, h9, h10, h11, h12⟩ := h
  have hq : ∀ a : Nat, a < s.heap.size → ¬ am_A G.2.2.1 a → U.heap[a]? = s.heap[a]? := hS.2.1
  refine ⟨va_K.moved hW.alike h1, va_X.moved hW.alike (va_X.kept h2 (hq _ (Nat.lt_of_lt_of_le h3 h4) (Nat.not_le.mpr h3))), h3, Nat.le_trans h4 hS.1, vx_Zq.moved hW.alike (vx_Zq.kept h5 hq), vx_Zq.moved hW.alike (vx_Zq.kept h6 hq), va_AO.moved hW.alike h7, fun w hw => ?_,
    fun w hw => va_Nw.warmD hW (h9 w hw), fun q hq => va_Nw.warmM hW (h10 q hq), fun q hq => vk_R.warm hW (h11 q hq), fun a ha b hb hab => va_Nc.moved hW.alike (h12 a ha b hb hab)⟩
  have h8' := h8 w hw
  simp only [am_bw, List.mem_cons, List.not_mem_nil, or_false] at hw
  rcases hw with rfl | rfl | rfl <;> exact am_castW hW h8'
theorem am_blind {G : am_Ev} {As : List Value} {σ : am_S} : FrameBlind (am_Pc G As σ) := fun a U g mk h => by
  obtain ⟨h1, h2, h3⟩ := h
  exact ⟨h1, am_G.mv (U := U.calling g mk a) (locs := []) h2 (State.WarmedH.refl U) ⟨Nat.le_refl _, fun _ _ _ => rfl, fun _ h => nomatch h⟩, h3⟩
theorem am_pre {G : am_Ev} {As : List Value} {σ : am_S} {s : State} {H : Heap} {locs : List Loc} (hG : am_G G s) (hP : am_P G σ H) (hS : va_S (am_A G.2.2.1) s.heap H locs) : ∀ U : State, U.heap = H → s.WarmedH U.vm → am_Pc G As σ As.toArray U := fun U hU hW =>
  ⟨rfl, am_G.mv (locs := locs) hG hW (by rw [hU]; exact hS), by rw [hU]; exact hP⟩
section
variable {p : Program} {l : Launch} {e : Env} {R : Room} {s : State} {m : MethodId} {args : Array Value} {below : List Frame} {meth : Method} {c : Code} {H : Heap} {locs : List Loc} {cells slots : Nat} {Q : State → Prop}
theorem am_vxm {y : MethodName} {ws : List Cond} {rm : Room} {Pc : Array Value → State → Prop} {Qc : Array Value → State → Outcome → State → Prop} {XC : String → State → State → Prop} {mc ms : Nat} {free : Addr → Prop} (h : vx_Met l y ws rm Pc Qc XC mc ms free) (hx : ∀ E st t, ¬ XC E st t) : Met l y ws rm Pc Qc mc ms free := by
  intro p e ha hc hk s m args below hf hap hP hK
  obtain ⟨n, o, h1, h2, h3, h4⟩ := h p e ha hc hk s m args below hf hap hP hK
  refine ⟨n, o, h1, h2, h3, ?_⟩
  rcases h4 with h4 | ⟨q, -, E, ce, L, hX, -⟩
  · exact h4
  · exact absurd hX (hx _ _ _)
theorem am_vxr {mc ms : Nat} {g : JFrame} {rest : List Value} {Qa : State → Outcome → State → Prop} {XC : String → State → State → Prop} {free : Addr → Prop} (h : va_Run p l e R s m args below meth c H locs cells slots mc ms g rest Qa free) : vx_Run p l e R s m args below meth c H locs cells slots mc ms g rest Qa XC free :=
  fun T hT X => Or.inl (h T hT X)
/-- behind a call -/
theorem am_cont {G : am_Ev} {r : am_R} {mc ms pc : Nat} {Ls : Array Slot} {st0 rest : List Value} {a : Array Value} (hr : vx_Run p l e R s m args below meth c H locs cells slots mc ms (F0 m pc Ls st0) rest (am_Q G r a) (am_XC G r) (am_A G.2.2.1)) (hS : va_S (am_A G.2.2.1) s.heap H locs)
    (kk : ∀ (v : Option Value) (σ' : am_S), r = (.inl v, σ') → ∀ (H' : Heap) (locs' : List Loc), am_P G σ' H' → va_S (am_A G.2.2.1) s.heap H' locs' → W p l e R s m args below meth c H' locs' (cells + mc) (slots + ms) Q (F0 m (pc + 3) Ls (v.toList ++ rest)))
    (kx : ∀ (E : Nat) (σ' : am_S), r = (.inr E, σ') → E < 3 → ∀ (H' : Heap) (locs' : List Loc) (q : Addr) (ce : Cell), am_P G σ' H' → va_S (am_A G.2.2.1) s.heap H' locs' → H'[q]? = some ce → ce.vm = .none → s.vm.findClass (am_en E) = some ce.cls → vx_W p l e R s m args below meth c H' locs' (cells + mc) (slots + ms) Q (F0 m pc Ls rest) q) :
    W p l e R s m args below meth c H locs cells slots Q (F0 m pc Ls st0) := by
  intro T hT X
  rcases hr T hT X with ⟨v, st₀, t, T', L, h0, X', hL, e1, e2, hq, st⟩ | ⟨q, st₀, t, T', L, E, ce, h0, X', hL, e1, e2, hq, hce, hcv, hcl, st⟩
  · obtain ⟨o, σ'⟩ := r
    cases o with
    | inr E => exact hq.elim
    | inl v' =>
      obtain ⟨hv, hP', hF⟩ := hq
      cases hv
      obtain ⟨k1, k2, k3⟩ := vx_keep h0 e1 hS (fun q _ h => h) (fun q h => h) hL hF
      obtain ⟨t2, a1, b1⟩ := kk v σ' rfl T'.heap (locs ++ L) (by rw [e1]; exact hP') k3 T' rfl X'
      exact ⟨t2, st t2 a1, b1⟩
  · obtain ⟨o, σ'⟩ := r
    cases o with
    | inl v => exact hq.elim
    | inr E' =>
      obtain ⟨rfl, hE, hP', hF⟩ := hq
      obtain ⟨k1, k2, k3⟩ := vx_keep h0 e1 hS (fun q _ h => h) (fun q h => h) hL hF
      obtain ⟨t2, a1, b1⟩ := kx E' σ' rfl hE T'.heap (locs ++ L) q ce (by rw [e1]; exact hP') k3 (by rw [e1]; exact hce) hcv hcl T' rfl X'
      exact ⟨t2, st.trans a1, b1⟩
theorem am_covers {a b h t pc : Nat} : covers ⟨a, b, h, t⟩ pc = true ↔ a ≤ pc ∧ pc < b := by simp [covers]
/-- what is thrown, at the table of the method -/
theorem am_ctS {G : am_Ev} {M pc E : Nat} {ls rest : List Value} {σ : am_S} {Ls : Array Slot} {q : Addr} {ce : Cell} {Qc : Array Value → State → Outcome → State → Prop} {XC : String → State → State → Prop} {mc ms : Nat}
    (hX : am_X M p l R s m args meth c) (hG : am_G G s) (hE : E < 3) (hL : am_L ls Ls (am_nL M)) (hcell : H[q]? = some ce) (hv : ce.vm = .none) (hcl : s.vm.findClass (am_en E) = some ce.cls) (hS : va_S (am_A G.2.2.1) s.heap H locs) (hmc : cells ≤ mc) (hms : slots ≤ ms) (hP : am_P G σ H) :
    ∀ (hs pre : List (Nat × Nat × Nat × Nat)), am_hh M = pre ++ hs → (∀ z ∈ tableOf pre, covers z pc = false ∨ (z.catchType ≠ 0 ∧ ∃ nm : String, (Cond.classLink (am_on (am_own M)) z.catchType nm).before args s = true ∧ va_Nc (am_en E) nm s)) → ∀ x : am_C ⊕ am_R, am_ct M pc ls E σ hs = some x →
    (∀ r, x = .inr r → XC = am_XC G r) →
    (∀ M' pc' ls' st' σ', x = .inl (M', pc', ls', st', σ') → M' = M ∧ σ' = σ ∧ ∀ Ls', am_L ls' Ls' (am_nL M) → W p l e R s m args below meth c H locs cells slots (vx_MQ below Qc XC args s mc ms (am_A G.2.2.1)) (F0 m pc' Ls' st')) →
    vx_W p l e R s m args below meth c H locs cells slots (vx_MQ below Qc XC args s mc ms (am_A G.2.2.1)) (F0 m pc Ls rest) q := by
  obtain ⟨hx, hb, -, hml, hown, hts, hlocks, htab, -⟩ := hX
  intro hs
  induction hs with
  | nil =>
    intro pre hpre hpass x h kr kc
    cases h
    have := kr _ rfl
    subst this
    exact vx_outP hown hlocks (by rw [htab, hpre, List.append_nil]; exact hpass) hcell hv hcl (fun t ht _ => ⟨rfl, hE, by rw [ht]; exact hP, hS.F ht⟩) hS.2.2 hmc hms
  | cons y r ih =>
    obtain ⟨a, b, hp, t⟩ := y
    intro pre hpre hpass x h kr kc
    have hsplit : am_hh M = (pre ++ [(a, b, hp, t)]) ++ r := by rw [hpre]; simp
    unfold am_ct at h
    split at h
    · rename_i hcov
      split at h
      · rename_i E' hlk
        obtain ⟨w1, w2, w3⟩ := am_xT_ok _ (am_lk hlk)
        split at h
        · rename_i hEE
          subst hEE
          have hcast : (Cond.castable (am_en E') (am_en E')).before args s = true := va_Nw.use rfl (hG.2.2.2.2.2.2.2.1 _ (am_en_ok E' w2).2.2.2.2.2)
          refine vx_catch (own := am_on (am_own M)) (name := am_en E') hown (tableOf pre) ⟨a, b, hp, t⟩ (tableOf r) (by rw [htab, hpre]; simp [tableOf]) hpass (am_covers.mpr hcov) w3 (hts _ w1) hcast hcell hv hcl ?_
          split at h
          · rename_i k hdk
            obtain ⟨hk, h⟩ := am_ifS h
            cases h
            obtain ⟨-, -, kc⟩ := kc _ _ _ _ _ rfl
            exact lv_astore_n hx hb hdk rfl hL.has (Nat.lt_of_lt_of_le hk hL.1) rfl (fun Ls' h' => kc Ls' (by
              have h1 := hL.set (x := .ref q) rfl h'
              obtain ⟨g1, g2, g3, g4⟩ := h1
              refine ⟨by simpa using g1, g2, g3, fun j v hj hv => ?_⟩
              refine g4 j v ?_ hv
              exact am_setjk hj hv))
          · rename_i k hdk
            obtain ⟨hk, h⟩ := am_ifS h
            cases h
            obtain ⟨-, -, kc⟩ := kc _ _ _ _ _ rfl
            exact lv_astore hx hb hdk hL.has (Nat.lt_of_lt_of_le hk hL.1) rfl (fun Ls' h' => kc Ls' (by
              have h1 := hL.set (x := .ref q) rfl h'
              obtain ⟨g1, g2, g3, g4⟩ := h1
              refine ⟨by simpa using g1, g2, g3, fun j v hj hv => ?_⟩
              refine g4 j v ?_ hv
              exact am_setjk hj hv))
          · cases h
        · rename_i hEE
          refine ih (pre ++ [(a, b, hp, t)]) hsplit (fun z hz => ?_) x h kr kc
          rw [show tableOf (pre ++ [(a, b, hp, t)]) = tableOf pre ++ [⟨a, b, hp, t⟩] by simp [tableOf]] at hz
          rcases List.mem_append.mp hz with hz | hz
          · exact hpass z hz
          · rw [List.mem_singleton] at hz
            subst hz
            exact Or.inr ⟨w3, am_en E', hts _ w1, hG.2.2.2.2.2.2.2.2.2.2.2 _ (am_en_ok E hE).2.2.2.1 _ (am_en_ok E' w2).2.2.2.1 (am_en_ne E hE E' w2 (fun z => hEE z.symm))⟩
      · cases h
    · rename_i hcov
      refine ih (pre ++ [(a, b, hp, t)]) hsplit (fun z hz => ?_) x h kr kc
      rw [show tableOf (pre ++ [(a, b, hp, t)]) = tableOf pre ++ [⟨a, b, hp, t⟩] by simp [tableOf]] at hz
      rcases List.mem_append.mp hz with hz | hz
      · exact hpass z hz
      · rw [List.mem_singleton] at hz
        subst hz
        refine Or.inl ?_
        cases hcv : covers (⟨a, b, hp, t⟩ : ExceptionTableEntry) pc with
        | false => rfl
        | true => exact absurd (am_covers.mp hcv) hcov
/-- returns and throws -/
theorem am_s3 {G : am_Ev} {M pc len k0 s0 : Nat} {i : Instr} {ls st : List Value} {σ : am_S} {r : am_R} {Ls : Array Slot} (hM : M < 136) (hX : am_X M p l R s m args meth c) (hG : am_G G s) (hd : decode (am_cod M) pc = .ok (i, len)) (h : am_i3 M i len pc ls st σ = some (.inr (.inl r))) (hP : am_P G σ H) (hS : va_S (am_A G.2.2.1) s.heap H locs) (hL : am_L ls Ls (am_nL M))
    (hk : k0 ≤ σ.2.2.1) (hs : s0 ≤ σ.2.2.2) (hR1 : r.2.2.2.1 - k0 ≤ R.cells) (hR2 : r.2.2.2.2 - s0 ≤ R.slots) :
    W p l e R s m args below meth c H locs (σ.2.2.1 - k0) (σ.2.2.2 - s0) (vx_MQ below (am_Q G r) (am_XC G r) args s (r.2.2.2.1 - k0) (r.2.2.2.2 - s0) (am_A G.2.2.1)) (F0 m pc Ls st) := by
  have hfp := am_fr_pos M hM
  obtain ⟨hx, hb, hr, hml, hown, hts, hlocks, htab, -, hfr, hlo, hl⟩ := hX
  have hnc : ∀ {ini : Bool} {rest : List Value} {M' : Nat} {As : List Value}, am_call ini M pc ls rest M' As σ = some (.inr (.inl r)) → False := by
    intro ini rest M' As h
    unfold am_call at h
    obtain ⟨-, h⟩ := am_ifS h
    cases h
  unfold am_i3 at h
  split at h
  · obtain ⟨⟨rfl, rfl, hn⟩, g⟩ := am_ifS h
    cases g
    exact vx_ret (W.vret hx hb (hr.trans hn) (fun t ht _ => ⟨rfl, by rw [ht]; exact hP, hS.F ht⟩) hS.2.2 hd hlocks)
  · obtain ⟨rfl, g⟩ := am_ifS h
    split at g
    · rename_i x hn
      cases g
      exact vx_ret (W.iret hx hb (hr.trans hn) (fun t ht _ => ⟨rfl, by rw [ht]; exact hP, hS.F ht⟩) hS.2.2 hd hlocks)
    · rename_i x hn
      obtain ⟨hx01, g2⟩ := am_ifS g
      cases g2
      exact vx_ret (W.zret hx hb (hr.trans hn) (by rcases hx01 with rfl | rfl <;> rfl) (fun t ht _ => ⟨rfl, by rw [ht]; exact hP, hS.F ht⟩) hS.2.2 hd hlocks)
    · cases g
  · obtain ⟨rfl, g⟩ := am_ifS h
    split at g
    · rename_i x o hn
      cases g
      exact vx_ret (W.aret hx hb (hr.trans hn) (Or.inl ⟨_, rfl⟩) (Or.inr ⟨_, rfl⟩) (fun t ht _ => ⟨rfl, by rw [ht]; exact hP, hS.F ht⟩) hS.2.2 hd hlocks)
    · cases g
  · obtain ⟨⟨rfl, hh, rfl, hd3, hd9⟩, g⟩ := am_ifS h
    split at g
    · rename_i E is ic hlk hd4 hd6
      obtain ⟨⟨hsT, hiT⟩, g2⟩ := am_ifS g
      cases g2
      obtain ⟨w1, w2, w3⟩ := am_xT_ok _ (am_lk hlk)
      obtain ⟨o6, -⟩ := am_iT_own _ (am_lk hiT)
      obtain ⟨-, tx, htx⟩ := am_sT_ok _ hsT
      obtain ⟨q1, q2, q3, q4, q5, q6⟩ := am_en_ok E w2
      have o6 : am_own M = 6 := o6
      have hon : am_on (am_own M) = RX6 := by rw [o6]; rfl
      have hat : ∀ w ∈ vx_atS (am_on (am_own M)) ic (am_en E) (am_nms E), w.before args s = true := fun w hw => by
        rcases am_iT_at _ (am_lk hiT) w hw with h1 | h1 | h1
        · exact hts w h1
        · have h2 := hG.2.2.2.2.2.2.2.1 w h1
          simp only [am_bw, List.mem_cons, List.not_mem_nil, or_false] at h1
          rcases h1 with rfl | rfl | rfl <;> exact va_Nw.use rfl h2
        · obtain ⟨y, hy, rfl⟩ := List.mem_map.mp h1
          exact va_Nw.use rfl (hG.2.2.2.2.2.2.2.2.1 y hy)
      have hgood : ∀ j : Nat, ∀ w ∈ Cond.classLink (am_on (am_own M)) j (am_en E) :: Cond.initialized (am_en E) :: vx_atS (am_on (am_own M)) ic (am_en E) (am_nms E), vx_ot w = true := fun j w hw => by
        rcases List.mem_cons.mp hw with rfl | hw
        · rfl
        · rcases List.mem_cons.mp hw with rfl | hw
          · rfl
          · exact am_iT_good _ (am_lk hiT) w hw
      have hstr : vk_R (am_on (am_own M)) is tx (G.2.2.2.2.2.2 is) s := by rw [hon]; exact hG.2.2.2.2.2.2.2.2.2.2.1 _ htx
      have e1 : σ.2.2.1 - k0 + 1 = σ.2.2.1 + 1 - k0 := by omega
      have e2 : σ.2.2.2 - s0 + 6 = σ.2.2.2 + 6 - s0 := by omega
      refine vx_throwS hx hb hl hown q1 q2 (hts _ w1) (hts _ q3) hstr hat (hgood _) hG.2.2.2.2.1 hG.2.2.2.2.2.1 hS (hL.2.1.trans hml.symm) hd hd3 hd4 hd6 hd9 (by rw [htab, hh]; intro x hx; cases hx) (by omega) (by show 0 + _ ≤ _; omega) (by rw [e1]; exact hR1) (by rw [e2]; exact hR2) hlocks
        (fun t hal hsz hk1 => ⟨rfl, w2, ?_, Nat.le_trans hS.1 hsz, fun q hq hn => (hk1 q (Nat.lt_of_lt_of_le hq hS.1)).trans (hS.2.1 q hq hn)⟩) hS.2.2 (by rw [e1]; exact Nat.le_refl _) (by rw [e2]; exact Nat.le_refl _)
      obtain ⟨ad, p1, p2, p3, -⟩ := hP
      exact ⟨ad, p1.kept (fun k x hx => hk1 x.1 ((p1 k x hx).lt)), p2, p3, fun z => absurd rfl z⟩
    · cases g
  · obtain ⟨rfl, g⟩ := am_ifS h
    repeat' split at g
    all_goals first
      | (cases g; done)
      | exact (hnc g).elim
  · obtain ⟨rfl, g⟩ := am_ifS h
    repeat' split at g
    all_goals first
      | (cases g; done)
      | exact (hnc g).elim
  · obtain ⟨rfl, g⟩ := am_ifS h
    repeat' split at g
    all_goals first
      | (cases g; done)
      | exact (hnc g).elim
  · cases h
end
section
variable {p : Program} {l : Launch} {e : Env} {R : Room} {s : State} {m : MethodId} {args : Array Value} {below : List Frame} {meth : Method} {c : Code} {H : Heap} {locs : List Loc} {cells slots : Nat} {Q : State → Prop}
theorem am_stk {n : Nat} {st rest : List Value} (h : st.drop n = rest) : st = (st.take n).reverse.reverse ++ rest := by
  rw [List.reverse_reverse, ← h, List.take_append_drop]
/-- a call, by the callee's contract -/
theorem am_run3 {G : am_Ev} {M pc len : Nat} {i : Instr} {ls st : List Value} {σ : am_S} {c' : am_C} {k : am_R → Option (am_C ⊕ am_R)} {Ls : Array Slot} (hX : am_X M p l R s m args meth c) (hG : am_G G s) (hd : decode (am_cod M) pc = .ok (i, len)) (h : am_i3 M i len pc ls st σ = some (.inr (.inr (c', k)))) (hP : am_P G σ H) (hS : va_S (am_A G.2.2.1) s.heap H locs) (hL : am_L ls Ls (am_nL M)) :
    ∃ (M' : Nat) (As rest : List Value) (ini : Bool), c' = (M', 0, As ++ List.replicate (am_nL M' - As.length) am_jk, [], σ) ∧ k = am_k ini M pc ls rest ∧ M' < 135 ∧ As.length ≤ am_nL M' ∧ (∀ v ∈ As, v.category = 1) ∧
      ∀ (r1 : am_R) (mc ms : Nat), (ini = true → ∃ (v : Option Value) (σ' : am_S), r1 = (.inl v, σ')) → vx_Met l (am_y M') (am_cw M' :: am_T) (am_rm M' mc ms) (am_Pc G As σ) (am_Q G r1) (am_XC G r1) mc ms (am_A G.2.2.1) → cells + mc ≤ R.cells → slots + ms ≤ R.slots →
        vx_Run p l e R s m args below meth c H locs cells slots mc ms (F0 m pc Ls st) rest (am_Q G r1 As.toArray) (am_XC G r1) (am_A G.2.2.1) := by
  obtain ⟨hx, hb, hr, hml, hown, hts, hlocks, htab, -, hfr, hlo, hl⟩ := hX
  have hK := hG.1
  have hsz : Ls.size = am_nL M := hL.2.1
  unfold am_i3 at h
  split at h
  · obtain ⟨-, g⟩ := am_ifS h; cases g
  · obtain ⟨-, g⟩ := am_ifS h
    repeat' split at g
    all_goals cases g
  · obtain ⟨-, g⟩ := am_ifS h
    repeat' split at g
    all_goals cases g
  · obtain ⟨-, g⟩ := am_ifS h
    repeat' split at g
    all_goals cases g
  · obtain ⟨rfl, g⟩ := am_ifS h
    clear h
    split at g
    · rename_i M' n hlk
      split at g
      · rename_i b rest hdr
        split at g
        · rename_i cj fs hb1
          obtain ⟨⟨rfl, hn⟩, g2⟩ := am_ifS g
          unfold am_call at g2
          obtain ⟨⟨hf1, hr4, hlen, hcat⟩, g3⟩ := am_ifS g2
          cases g3
          have hck := am_cT_ok _ (am_lk hlk)
          simp only [am_cG, Bool.and_eq_true, decide_eq_true_eq] at hck
          obtain ⟨⟨⟨⟨c1, c2⟩, c3⟩, c4⟩, c5⟩ := hck
          have hw := am_cT_in _ (am_lk hlk)
          obtain ⟨y1, y2, y3⟩ := am_yG M' (by omega)
          obtain ⟨ws, hPw, hDw, hwr⟩ := hP.at
          obtain ⟨kq, hkq, -⟩ := hwr b _ hb1 (am_tk_r _)
          refine ⟨M', _, rest, false, rfl, rfl, c1, hlen, hcat, fun r1 mc ms _ hM hc hs => ?_⟩
          exact vx_runV (C := am_CN (am_own M')) ⟨hx, hb, hml, hown, hts⟩ hM (cwV n hts (am_goodC c1 (fun w hwm => hw w (by rw [← c4] at hwm; exact hwm))) (by rw [am_cw, if_pos c2]) rfl rfl ⟨c4, y1, y2, c5⟩ ⟨by show am_fr M' + 1 ≤ _; omega, by show _ + 500 * am_fr M' ≤ _; omega⟩)
            ⟨am_blind, va_recv hK hPw (am_cl_at c3) hkq, am_pre hG hP hS⟩ rfl (by rw [List.length_reverse]; exact hn) hsz (am_stk hdr) (lv_room (am_cat hr4)) hd ⟨hc, hs⟩
        · cases g
      · cases g
    · cases g
  · obtain ⟨rfl, g⟩ := am_ifS h
    clear h
    split at g
    · rename_i M' n hlk
      obtain ⟨hn, g2⟩ := am_ifS g
      unfold am_call at g2
      obtain ⟨⟨hf1, hr4, hlen, hcat⟩, g3⟩ := am_ifS g2
      cases g3
      have hck := am_cT_ok _ (am_lk hlk)
      simp only [am_cG, Bool.and_eq_true, decide_eq_true_eq] at hck
      obtain ⟨⟨c1, c2⟩, c5⟩ := hck
      have hw := am_cT_in _ (am_lk hlk)
      obtain ⟨y1, y2, y3⟩ := am_yG M' (by omega)
      refine ⟨M', _, _, false, rfl, rfl, c1, hlen, hcat, fun r1 mc ms _ hM hc hs => ?_⟩
      exact vx_runS ⟨hx, hb, hml, hown, hts⟩ hM (va_cwS n hts (am_goodC c1 hw) (by rw [am_cw, if_pos c2]) rfl rfl ⟨y1, y2, c5⟩ ⟨by show am_fr M' + 1 ≤ _; omega, by show _ + 500 * am_fr M' ≤ _; omega⟩)
        ⟨am_blind, am_pre hG hP hS⟩ rfl (by rw [List.length_reverse]; exact hn) hsz (am_stk rfl) (lv_room (am_cat hr4)) hd ⟨hc, hs⟩
    · rename_i M' n hlk
      obtain ⟨hn, g2⟩ := am_ifS g
      unfold am_call at g2
      obtain ⟨⟨hf1, hr4, hlen, hcat⟩, g3⟩ := am_ifS g2
      cases g3
      have hck := am_cT_ok _ (am_lk hlk)
      simp only [am_cG, Bool.and_eq_true, decide_eq_true_eq] at hck
      obtain ⟨⟨c1, c2⟩, c5⟩ := hck
      have hw := am_cT_in _ (am_lk hlk)
      obtain ⟨y1, y2, y3⟩ := am_yG M' (by omega)
      refine ⟨M', _, _, false, rfl, rfl, c1, hlen, hcat, fun r1 mc ms _ hM hc hs => ?_⟩
      exact vx_runSX (hh := am_hh M') ⟨hx, hb, hml, hown, hts⟩ hM (vx_cwSW n hts (am_goodC c1 hw) (by rw [am_cw, if_neg (by intro z; rw [z] at c2; cases c2)]) rfl rfl ⟨y1, y2, c5⟩ ⟨by show am_fr M' + 1 ≤ _; omega, by show _ + 500 * am_fr M' ≤ _; omega⟩)
        ⟨am_blind, am_pre hG hP hS⟩ rfl (by rw [List.length_reverse]; exact hn) hsz (am_stk rfl) (lv_room (am_cat hr4)) hd ⟨hc, hs⟩
    · cases g
  · obtain ⟨rfl, g⟩ := am_ifS h
    clear h
    split at g
    · rename_i M' n hlk
      split at g
      · rename_i b rest hdr
        obtain ⟨hn, g2⟩ := am_ifS g
        unfold am_call at g2
        obtain ⟨⟨hf1, hr4, hlen, hcat⟩, g3⟩ := am_ifS g2
        cases g3
        have hck := am_cT_ok _ (am_lk hlk)
        simp only [am_cG, Bool.and_eq_true, decide_eq_true_eq] at hck
        obtain ⟨⟨⟨⟨c1, c2⟩, c3⟩, c4⟩, c5⟩ := hck
        have hw := am_cT_in _ (am_lk hlk)
        obtain ⟨y1, y2, y3⟩ := am_yG M' (by omega)
        refine ⟨M', _, rest, true, rfl, rfl, c1, hlen, hcat, fun r1 mc ms hi hM hc hs => ?_⟩
        obtain ⟨v, σ', rfl⟩ := hi rfl
        exact am_vxr (va_runI ⟨hx, hb, hml, hown, hts⟩ (am_vxm hM (fun _ _ _ h => h)) (cwI n hts (am_goodW c1) (by rw [am_cw, if_pos c2, c4]) rfl rfl (hts _ (hw _ (by simp [am_cW]))) (hts _ (hw _ (by simp [am_cW]))) (hts _ (hw _ (by simp [am_cW]))) c3 ⟨y1, y2, c5⟩ ⟨by show am_fr M' + 1 ≤ _; omega, by show _ + 500 * am_fr M' ≤ _; omega⟩)
          ⟨am_blind, am_pre hG hP hS⟩ rfl (by rw [List.length_reverse]; exact hn) hsz (am_stk hdr) (lv_room (am_cat hr4)) hd ⟨hc, hs⟩)
      · cases g
    · rename_i M' n hlk
      split at g
      · rename_i b rest hdr
        obtain ⟨hn, g2⟩ := am_ifS g
        unfold am_call at g2
        obtain ⟨⟨hf1, hr4, hlen, hcat⟩, g3⟩ := am_ifS g2
        cases g3
        have hck := am_cT_ok _ (am_lk hlk)
        simp only [am_cG, Bool.and_eq_true, decide_eq_true_eq] at hck
        obtain ⟨⟨⟨⟨⟨c1, c2⟩, c3⟩, c4⟩, c6⟩, c5⟩ := hck
        have hw := am_cT_in _ (am_lk hlk)
        obtain ⟨y1, y2, y3⟩ := am_yG M' (by omega)
        refine ⟨M', _, rest, true, rfl, rfl, c1, hlen, hcat, fun r1 mc ms hi hM hc hs => ?_⟩
        obtain ⟨v, σ', rfl⟩ := hi rfl
        exact am_vxr (va_runIN (host := RX6) ⟨hx, hb, hml, hown, hts⟩ (am_vxm hM (fun _ _ _ h => h)) ⟨va_cnB n hts (am_goodW c1) (by rw [am_cw, if_pos c2, c4]) rfl rfl (hG.2.2.2.2.2.2.2.2.2.1 _ c6) (hts _ (hw _ (by simp [am_cW]))) ⟨y1, y2, c5⟩ ⟨by show am_fr M' + 1 ≤ _; omega, by show _ + 500 * am_fr M' ≤ _; omega⟩, c3, hts _ (hw _ (by simp [am_cW]))⟩
          ⟨am_blind, am_pre hG hP hS⟩ rfl (by rw [List.length_reverse]; exact hn) hsz (am_stk hdr) (lv_room (am_cat hr4)) hd ⟨hc, hs⟩)
      · cases g
    · cases g
  · cases h
end
