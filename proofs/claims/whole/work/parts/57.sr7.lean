/-! the reference: what comes, in words of the shelf -/
section
variable {n : Nat} {S : Sh} {N : Nat} {T : Nat → List Int32} {V : Nat → Int32} {W : Nat → List Nat} {aN aS aB aU aH aD aX aM aW aI aT aA : Nat → Int32} {iD iA : Int32}
theorem Rl.copy_to {t f : Nat} (ht : t < 3) (hf : f < 3) (hne : t ≠ f) (w : WF n S) (r : Rl f n S aN aS aB aU aH aD aX aM aW aI aT aA) : Rl t n S (upd aN t (aN f)) (cpy aS aS (400 * f) (400 * t) 400) (cpy aB aB (4800 * f) (4800 * t) 4800) (cpy aU aU (400 * f) (400 * t) 400) (cpy aH aH (400 * f) (400 * t) 400) (cpy aD aD (40 * f) (40 * t) 40) (cpy (narX aX) aX (40 * f) (40 * t) 40) (cpy aM aM (40 * f) (40 * t) 40) (cpy aW aW (400 * f) (400 * t) 400) (upd aI t (aI f)) (cpy aT aT (32 * f) (32 * t) 32) (upd aA t (aA f)) := by
  obtain ⟨N, T, V, W, h1, h2⟩ := r
  have hn : n ≤ 40 := w.2.2.2.1
  refine ⟨N, T, V, W, by rw [upd_s]; exact h1, ?_⟩
  rw [upd_s, upd_s]
  refine h2.congr w ?_ ?_ ?_ ?_ ?_ ?_ ?_ ?_ ?_
  · exact fun j hj => by unfold sl; rw [cpy_in (by omega) (by omega)]; congr 1; omega
  · exact fun j hj => by unfold sl; rw [cpy_in (by omega) (by omega)]; congr 1; omega
  · exact fun j hj => by unfold sl; rw [cpy_in (by omega) (by omega)]; congr 1; omega
  · exact fun j hj => by unfold sl; rw [cpy_in (by omega) (by omega)]; congr 1; omega
  · exact fun j hj => by unfold sl; rw [cpy_in (by omega) (by omega)]; congr 1; omega
  · intro j hj
    have hx := (h2.2.2.1 j hj).2.1
    unfold sl at hx ⊢
    rw [cpy_in (by omega) (by omega), show 40 * f + (40 * t + j - 40 * t) = 40 * f + j by omega]
    unfold narX
    rw [hx]
    by_cases e : j < S.used
    · rw [if_pos e]; exact nar1
    · rw [if_neg e]; exact nar0
  · exact fun j hj => by unfold sl; rw [cpy_in (by omega) (by omega)]; congr 1; omega
  · exact fun j hj => by unfold sl; rw [cpy_in (by omega) (by omega)]; congr 1; omega
  · exact fun j hj => by unfold sl; rw [cpy_in (by omega) (by omega)]; congr 1; omega
theorem Rl.copy_ot {t f k : Nat} (ht : t < 3) (hk : k < 3) (hne : k ≠ t) (w : WF n S) (r : Rl k n S aN aS aB aU aH aD aX aM aW aI aT aA) : Rl k n S (upd aN t (aN f)) (cpy aS aS (400 * f) (400 * t) 400) (cpy aB aB (4800 * f) (4800 * t) 4800) (cpy aU aU (400 * f) (400 * t) 400) (cpy aH aH (400 * f) (400 * t) 400) (cpy aD aD (40 * f) (40 * t) 40) (cpy (narX aX) aX (40 * f) (40 * t) 40) (cpy aM aM (40 * f) (40 * t) 40) (cpy aW aW (400 * f) (400 * t) 400) (upd aI t (aI f)) (cpy aT aT (32 * f) (32 * t) 32) (upd aA t (aA f)) := by
  obtain ⟨N, T, V, W, h1, h2⟩ := r
  have hn : n ≤ 40 := w.2.2.2.1
  refine ⟨N, T, V, W, by rw [upd_n hne]; exact h1, ?_⟩
  rw [upd_n hne, upd_n hne]
  refine h2.congr w ?_ ?_ ?_ ?_ ?_ ?_ ?_ ?_ ?_
  · exact fun j hj => by unfold sl; rw [cpy_out (by omega)]
  · exact fun j hj => by unfold sl; rw [cpy_out (by omega)]
  · exact fun j hj => by unfold sl; rw [cpy_out (by omega)]
  · exact fun j hj => by unfold sl; rw [cpy_out (by omega)]
  · exact fun j hj => by unfold sl; rw [cpy_out (by omega)]
  · exact fun j hj => by unfold sl; rw [cpy_out (by omega)]
  · exact fun j hj => by unfold sl; rw [cpy_out (by omega)]
  · exact fun j hj => by unfold sl; rw [cpy_out (by omega)]
  · exact fun j hj => by unfold sl; rw [cpy_out (by omega)]
theorem Rl.fr {k : Nat} {aN' aS' aB' aU' aH' aD' aX' aM' aW' aI' aT' aA' : Nat → Int32} (hk : 1 ≤ k) (w : WF n S) (r : Rl k n S aN aS aB aU aH aD aX aM aW aI aT aA) (eN : ∀ j, 1 ≤ j → aN' j = aN j) (eS : ∀ j, 400 ≤ j → aS' j = aS j) (eB : ∀ j, 4800 ≤ j → aB' j = aB j) (eU : ∀ j, 400 ≤ j → aU' j = aU j) (eH : ∀ j, 400 ≤ j → aH' j = aH j) (eD : ∀ j, 40 ≤ j → aD' j = aD j) (eX : ∀ j, 40 ≤ j → aX' j = aX j) (eM : ∀ j, 40 ≤ j → aM' j = aM j) (eW : ∀ j, 400 ≤ j → aW' j = aW j) (eI : ∀ j, 1 ≤ j → aI' j = aI j) (eT : ∀ j, 32 ≤ j → aT' j = aT j) (eA : ∀ j, 1 ≤ j → aA' j = aA j) : Rl k n S aN' aS' aB' aU' aH' aD' aX' aM' aW' aI' aT' aA' := by
  obtain ⟨N, T, V, W, h1, h2⟩ := r
  refine ⟨N, T, V, W, by rw [eN k hk]; exact h1, ?_⟩
  rw [eI k hk, eA k hk]
  refine h2.congr w ?_ ?_ ?_ ?_ ?_ ?_ ?_ ?_ ?_
  · exact fun j _ => eS _ (by omega)
  · exact fun j _ => eB _ (by omega)
  · exact fun j _ => eU _ (by omega)
  · exact fun j _ => eH _ (by omega)
  · exact fun j _ => eD _ (by omega)
  · exact fun j _ => eX _ (by omega)
  · exact fun j _ => eM _ (by omega)
  · exact fun j _ => eW _ (by omega)
  · exact fun j _ => eT _ (by omega)
theorem R0.ext (r : R0 n S N T V W aS aB aU aH aD aX aM aW aT iD iA) {T' : Nat → List Int32} {V' : Nat → Int32} (hT : ∀ j, j < N → T' j = T j) (hV : ∀ j, j < N → V' j = V j) : R0 n S N T' V' W aS aB aU aH aD aX aM aW aT iD iA := by
  refine ⟨r.1, fun j hj => ?_, fun p hp => ?_, r.2.2.2.1, r.2.2.2.2.1, fun i j hi hj e => ?_, r.2.2.2.2.2.2⟩
  · rw [hT j hj, hV j hj]; exact r.2.1 j hj
  · obtain ⟨a1, a2, a3, a4, a5, a6⟩ := r.2.2.1 p hp
    refine ⟨a1, a2, a3, a4, ?_, a6⟩
    rw [a5]
    exact List.map_congr_left (fun j hj => by rw [hT j (a6 j hj), hV j (a6 j hj)])
  · rw [hT i hi, hT j hj] at e
    exact r.2.2.2.2.2.1 i j hi hj e
theorem cnt_put {p : Nat} {rs : List Rc} (hp : p < n) : cnt (S.put p rs) n + (S.rec p).length = cnt S n + rs.length := by
  rw [cnt_sN, cnt_sN]
  have h1 := sN_upd (g := fun i => (S.rec i).length) (p := p) (v := rs.length) n hp
  have h2 : sN (fun i => ((S.put p rs).rec i).length) n = sN (updN (fun i => (S.rec i).length) p rs.length) n := sN_congr n (fun i hi => by
    show (updR S.rec p rs i).length = _
    unfold updR updN
    by_cases e : i = p
    · rw [if_pos e, if_pos e]
    · rw [if_neg e, if_neg e])
  rw [h2]
  exact h1
/-- a number in place of another -/
theorem R0.ren (w : WF n S) (r : R0 n S N T V W aS aB aU aH aD aX aM aW aT iD iA) {j : Nat} (hj : j < N) (v : Int32) : R0 n (S.put (S.at (hsh (T j))) (renum (T j) v (S.rec (S.at (hsh (T j)))))) N T (upd V j v) W aS aB (upd aU j v) aH aD aX aM aW aT iD (iA + 1) := by
  have hat := S.at_lt w (hsh (T j))
  have hu : S.used ≤ n := w.2.1
  refine ⟨⟨r.1.1, by rw [r.1.2]; exact nI_1 S.acts⟩, fun i hi => ?_, fun p hp => ?_, r.2.2.2.1, r.2.2.2.2.1, r.2.2.2.2.2.1, ?_⟩
  · obtain ⟨a1, a2, a3, a4, a5⟩ := r.2.1 i hi
    refine ⟨a1, a2, ?_, a4, a5⟩
    by_cases e : i = j
    · rw [e, upd_s, upd_s]
    · rw [upd_n e, upd_n e]; exact a3
  · obtain ⟨a1, a2, a3, a4, a5, a6⟩ := r.2.2.1 p hp
    refine ⟨a1, a2, a3, a4, ?_, a6⟩
    show updR S.rec (S.at (hsh (T j))) _ p = _
    by_cases e : p = S.at (hsh (T j))
    · rw [e, updR_s, ← e, a5]
      unfold renum
      rw [List.map_map]
      refine List.map_congr_left (fun i hi => ?_)
      show (if T i = T j then (T j, v) else (T i, V i)) = (T i, upd V j v i)
      by_cases e2 : i = j
      · rw [e2, if_pos rfl, upd_s]
      · rw [if_neg (fun e3 => e2 (r.2.2.2.2.2.1 i j (a6 i hi) hj e3)), upd_n e2]
    · rw [updR_n e, a5]
      refine List.map_congr_left (fun i hi => ?_)
      have e2 : i ≠ j := fun e3 => e (by rw [← r.page w hp hi, e3])
      rw [upd_n e2]
  · have h1 := cnt_put (n := n) (S := S) (p := S.at (hsh (T j))) (rs := renum (T j) v (S.rec (S.at (hsh (T j))))) (by omega)
    have h2 : (renum (T j) v (S.rec (S.at (hsh (T j))))).length = (S.rec (S.at (hsh (T j)))).length := by unfold renum; rw [List.length_map]
    have h3 := r.2.2.2.2.2.2
    omega
/-- a name more -/
theorem R0.app (w : WF n S) (r : R0 n S N T V W aS aB aU aH aD aX aM aW aT iD iA) {p : Nat} (hp : p < n) (k1 : aS N = nI (T N).length) (k2 : ∀ i, i < (T N).length → aB (12 * N + i) = (T N).getD i 0) (k3 : aU N = V N) (k4 : aH N = hsh (T N)) (k5 : 1 ≤ (T N).length ∧ (T N).length ≤ 12) (k6 : ∀ j, j < N → T j ≠ T N) :
    R0 n (S.put p (S.rec p ++ [(T N, V N)])) (N + 1) T V (fun q => if q = p then W p ++ [N] else W q) aS aB aU aH aD aX (upd aM p (nI ((W p).length + 1))) (upd aW (10 * p + (W p).length) (nI N)) aT iD (iA + 1) := by
  have L9 := r.W9 w hp
  refine ⟨⟨r.1.1, by rw [r.1.2]; exact nI_1 S.acts⟩, fun i hi => ?_, fun q hq => ?_, r.2.2.2.1, fun j hj => ?_, fun i j hi hj e => ?_, ?_⟩
  · by_cases e : i = N
    · rw [e]; exact ⟨k1, k2, k3, k4, k5⟩
    · exact r.2.1 i (by omega)
  · obtain ⟨a1, a2, a3, a4, a5, a6⟩ := r.2.2.1 q hq
    have L9q := r.W9 w hq
    dsimp only
    by_cases e : q = p
    · subst e
      rw [if_pos rfl, upd_s]
      refine ⟨a1, a2, by rw [List.length_append]; rfl, ext_upd a4, ?_, fun j hj => ?_⟩
      · show updR S.rec q _ q = _
        rw [updR_s, List.map_append, a5]; rfl
      · rcases List.mem_append.mp hj with hj | hj
        · have := a6 j hj; omega
        · rw [List.mem_singleton] at hj; omega
    · rw [if_neg e, upd_n e]
      refine ⟨a1, a2, a3, fun i hi => by rw [upd_n (by omega)]; exact a4 i hi, ?_, fun j hj => by have := a6 j hj; omega⟩
      show updR S.rec p _ q = _
      rw [updR_n e]; exact a5
  · by_cases e : j = N
    · exact ⟨p, hp, by dsimp only; rw [if_pos rfl, e]; simp⟩
    · obtain ⟨q, hq, hjq⟩ := r.2.2.2.2.1 j (by omega)
      refine ⟨q, hq, ?_⟩
      dsimp only
      by_cases e2 : q = p
      · rw [if_pos e2, ← e2]; exact List.mem_append_left _ hjq
      · rw [if_neg e2]; exact hjq
  · by_cases e1 : i = N
    · by_cases e2 : j = N
      · omega
      · rw [e1] at e; exact absurd e.symm (k6 j (by omega))
    · by_cases e2 : j = N
      · rw [e2] at e; exact absurd e (k6 i (by omega))
      · exact r.2.2.2.2.2.1 i j (by omega) (by omega) e
  · have h1 := cnt_put (n := n) (S := S) (p := p) (rs := S.rec p ++ [(T N, V N)]) hp
    rw [List.length_append, List.length_singleton] at h1
    have h3 := r.2.2.2.2.2.2
    omega
end
