/-! the reference's object: one heap of its parts -/
def hp (h0 : Nat → Option va_E) (m : Nat) (c : Int32) (n jl fd : Nat) (aN aS aB aU aH aD aX aM aW aI aT aA aK aL aF aP : Nat → Int32) : Nat → Option va_E := fun b => if b = m then some (obj 7 [.int c, .int (nI n), .ref (m + 1), .ref (m + 2), .ref (m + 3), .ref (m + 4), .ref (m + 5), .ref (m + 6), .ref (m + 7), .ref (m + 8), .ref (m + 9), .ref (m + 10), .ref (m + 11), .ref (m + 12), .ref (m + 13), .int (nI jl), .ref (m + 14), .int (nI fd), .ref (m + 15), .ref (m + 16)]) else if b = m + 1 then some (ints 3 aN) else if b = m + 2 then some (ints 1200 aS) else if b = m + 3 then some (ints 14400 aB) else if b = m + 4 then some (ints 1200 aU) else if b = m + 5 then some (ints 1200 aH) else if b = m + 6 then some (ints 120 aD) else if b = m + 7 then some (.inl (1, 120, .inl aX)) else if b = m + 8 then some (ints 120 aM) else if b = m + 9 then some (ints 1200 aW) else if b = m + 10 then some (ints 3 aI) else if b = m + 11 then some (ints 96 aT) else if b = m + 12 then some (ints 3 aA) else if b = m + 13 then some (ints 2560 aK) else if b = m + 14 then some (ints 600 aL) else if b = m + 15 then some (ints 12 aF) else if b = m + 16 then some (ints 64 aP) else h0 b
section
variable {h0 : Nat → Option va_E} {m n jl fd : Nat} {c : Int32} {aN aS aB aU aH aD aX aM aW aI aT aA aK aL aF aP : Nat → Int32}
theorem hp_o : (hp h0 m c n jl fd aN aS aB aU aH aD aX aM aW aI aT aA aK aL aF aP) m = some (obj 7 [.int c, .int (nI n), .ref (m + 1), .ref (m + 2), .ref (m + 3), .ref (m + 4), .ref (m + 5), .ref (m + 6), .ref (m + 7), .ref (m + 8), .ref (m + 9), .ref (m + 10), .ref (m + 11), .ref (m + 12), .ref (m + 13), .int (nI jl), .ref (m + 14), .int (nI fd), .ref (m + 15), .ref (m + 16)]) := if_pos rfl
theorem hp_1 : (hp h0 m c n jl fd aN aS aB aU aH aD aX aM aW aI aT aA aK aL aF aP) (m + 1) = some (ints 3 aN) := by unfold hp; rw [if_neg (by omega), if_pos rfl]
theorem hp_2 : (hp h0 m c n jl fd aN aS aB aU aH aD aX aM aW aI aT aA aK aL aF aP) (m + 2) = some (ints 1200 aS) := by unfold hp; rw [if_neg (by omega), if_neg (by omega), if_pos rfl]
theorem hp_3 : (hp h0 m c n jl fd aN aS aB aU aH aD aX aM aW aI aT aA aK aL aF aP) (m + 3) = some (ints 14400 aB) := by unfold hp; rw [if_neg (by omega), if_neg (by omega), if_neg (by omega), if_pos rfl]
theorem hp_4 : (hp h0 m c n jl fd aN aS aB aU aH aD aX aM aW aI aT aA aK aL aF aP) (m + 4) = some (ints 1200 aU) := by unfold hp; rw [if_neg (by omega), if_neg (by omega), if_neg (by omega), if_neg (by omega), if_pos rfl]
theorem hp_5 : (hp h0 m c n jl fd aN aS aB aU aH aD aX aM aW aI aT aA aK aL aF aP) (m + 5) = some (ints 1200 aH) := by unfold hp; rw [if_neg (by omega), if_neg (by omega), if_neg (by omega), if_neg (by omega), if_neg (by omega), if_pos rfl]
theorem hp_6 : (hp h0 m c n jl fd aN aS aB aU aH aD aX aM aW aI aT aA aK aL aF aP) (m + 6) = some (ints 120 aD) := by unfold hp; rw [if_neg (by omega), if_neg (by omega), if_neg (by omega), if_neg (by omega), if_neg (by omega), if_neg (by omega), if_pos rfl]
theorem hp_7 : (hp h0 m c n jl fd aN aS aB aU aH aD aX aM aW aI aT aA aK aL aF aP) (m + 7) = some (.inl (1, 120, .inl aX)) := by unfold hp; rw [if_neg (by omega), if_neg (by omega), if_neg (by omega), if_neg (by omega), if_neg (by omega), if_neg (by omega), if_neg (by omega), if_pos rfl]
theorem hp_8 : (hp h0 m c n jl fd aN aS aB aU aH aD aX aM aW aI aT aA aK aL aF aP) (m + 8) = some (ints 120 aM) := by unfold hp; rw [if_neg (by omega), if_neg (by omega), if_neg (by omega), if_neg (by omega), if_neg (by omega), if_neg (by omega), if_neg (by omega), if_neg (by omega), if_pos rfl]
theorem hp_9 : (hp h0 m c n jl fd aN aS aB aU aH aD aX aM aW aI aT aA aK aL aF aP) (m + 9) = some (ints 1200 aW) := by unfold hp; rw [if_neg (by omega), if_neg (by omega), if_neg (by omega), if_neg (by omega), if_neg (by omega), if_neg (by omega), if_neg (by omega), if_neg (by omega), if_neg (by omega), if_pos rfl]
theorem hp_10 : (hp h0 m c n jl fd aN aS aB aU aH aD aX aM aW aI aT aA aK aL aF aP) (m + 10) = some (ints 3 aI) := by unfold hp; rw [if_neg (by omega), if_neg (by omega), if_neg (by omega), if_neg (by omega), if_neg (by omega), if_neg (by omega), if_neg (by omega), if_neg (by omega), if_neg (by omega), if_neg (by omega), if_pos rfl]
theorem hp_11 : (hp h0 m c n jl fd aN aS aB aU aH aD aX aM aW aI aT aA aK aL aF aP) (m + 11) = some (ints 96 aT) := by unfold hp; rw [if_neg (by omega), if_neg (by omega), if_neg (by omega), if_neg (by omega), if_neg (by omega), if_neg (by omega), if_neg (by omega), if_neg (by omega), if_neg (by omega), if_neg (by omega), if_neg (by omega), if_pos rfl]
theorem hp_12 : (hp h0 m c n jl fd aN aS aB aU aH aD aX aM aW aI aT aA aK aL aF aP) (m + 12) = some (ints 3 aA) := by unfold hp; rw [if_neg (by omega), if_neg (by omega), if_neg (by omega), if_neg (by omega), if_neg (by omega), if_neg (by omega), if_neg (by omega), if_neg (by omega), if_neg (by omega), if_neg (by omega), if_neg (by omega), if_neg (by omega), if_pos rfl]
theorem hp_13 : (hp h0 m c n jl fd aN aS aB aU aH aD aX aM aW aI aT aA aK aL aF aP) (m + 13) = some (ints 2560 aK) := by unfold hp; rw [if_neg (by omega), if_neg (by omega), if_neg (by omega), if_neg (by omega), if_neg (by omega), if_neg (by omega), if_neg (by omega), if_neg (by omega), if_neg (by omega), if_neg (by omega), if_neg (by omega), if_neg (by omega), if_neg (by omega), if_pos rfl]
theorem hp_14 : (hp h0 m c n jl fd aN aS aB aU aH aD aX aM aW aI aT aA aK aL aF aP) (m + 14) = some (ints 600 aL) := by unfold hp; rw [if_neg (by omega), if_neg (by omega), if_neg (by omega), if_neg (by omega), if_neg (by omega), if_neg (by omega), if_neg (by omega), if_neg (by omega), if_neg (by omega), if_neg (by omega), if_neg (by omega), if_neg (by omega), if_neg (by omega), if_neg (by omega), if_pos rfl]
theorem hp_15 : (hp h0 m c n jl fd aN aS aB aU aH aD aX aM aW aI aT aA aK aL aF aP) (m + 15) = some (ints 12 aF) := by unfold hp; rw [if_neg (by omega), if_neg (by omega), if_neg (by omega), if_neg (by omega), if_neg (by omega), if_neg (by omega), if_neg (by omega), if_neg (by omega), if_neg (by omega), if_neg (by omega), if_neg (by omega), if_neg (by omega), if_neg (by omega), if_neg (by omega), if_neg (by omega), if_pos rfl]
theorem hp_16 : (hp h0 m c n jl fd aN aS aB aU aH aD aX aM aW aI aT aA aK aL aF aP) (m + 16) = some (ints 64 aP) := by unfold hp; rw [if_neg (by omega), if_neg (by omega), if_neg (by omega), if_neg (by omega), if_neg (by omega), if_neg (by omega), if_neg (by omega), if_neg (by omega), if_neg (by omega), if_neg (by omega), if_neg (by omega), if_neg (by omega), if_neg (by omega), if_neg (by omega), if_neg (by omega), if_neg (by omega), if_pos rfl]
theorem wp_1 {g : Nat → Int32} : am_up (hp h0 m c n jl fd aN aS aB aU aH aD aX aM aW aI aT aA aK aL aF aP) (m + 1) (ints 3 g) = (hp h0 m c n jl fd g aS aB aU aH aD aX aM aW aI aT aA aK aL aF aP) := by
  funext b
  unfold am_up
  by_cases hb : b = m + 1
  · rw [if_pos hb, hb, hp_1]
  · rw [if_neg hb]
    unfold hp
    simp only [hb, if_false]
theorem wp_2 {g : Nat → Int32} : am_up (hp h0 m c n jl fd aN aS aB aU aH aD aX aM aW aI aT aA aK aL aF aP) (m + 2) (ints 1200 g) = (hp h0 m c n jl fd aN g aB aU aH aD aX aM aW aI aT aA aK aL aF aP) := by
  funext b
  unfold am_up
  by_cases hb : b = m + 2
  · rw [if_pos hb, hb, hp_2]
  · rw [if_neg hb]
    unfold hp
    simp only [hb, if_false]
theorem wp_3 {g : Nat → Int32} : am_up (hp h0 m c n jl fd aN aS aB aU aH aD aX aM aW aI aT aA aK aL aF aP) (m + 3) (ints 14400 g) = (hp h0 m c n jl fd aN aS g aU aH aD aX aM aW aI aT aA aK aL aF aP) := by
  funext b
  unfold am_up
  by_cases hb : b = m + 3
  · rw [if_pos hb, hb, hp_3]
  · rw [if_neg hb]
    unfold hp
    simp only [hb, if_false]
theorem wp_4 {g : Nat → Int32} : am_up (hp h0 m c n jl fd aN aS aB aU aH aD aX aM aW aI aT aA aK aL aF aP) (m + 4) (ints 1200 g) = (hp h0 m c n jl fd aN aS aB g aH aD aX aM aW aI aT aA aK aL aF aP) := by
  funext b
  unfold am_up
  by_cases hb : b = m + 4
  · rw [if_pos hb, hb, hp_4]
  · rw [if_neg hb]
    unfold hp
    simp only [hb, if_false]
theorem wp_5 {g : Nat → Int32} : am_up (hp h0 m c n jl fd aN aS aB aU aH aD aX aM aW aI aT aA aK aL aF aP) (m + 5) (ints 1200 g) = (hp h0 m c n jl fd aN aS aB aU g aD aX aM aW aI aT aA aK aL aF aP) := by
  funext b
  unfold am_up
  by_cases hb : b = m + 5
  · rw [if_pos hb, hb, hp_5]
  · rw [if_neg hb]
    unfold hp
    simp only [hb, if_false]
theorem wp_6 {g : Nat → Int32} : am_up (hp h0 m c n jl fd aN aS aB aU aH aD aX aM aW aI aT aA aK aL aF aP) (m + 6) (ints 120 g) = (hp h0 m c n jl fd aN aS aB aU aH g aX aM aW aI aT aA aK aL aF aP) := by
  funext b
  unfold am_up
  by_cases hb : b = m + 6
  · rw [if_pos hb, hb, hp_6]
  · rw [if_neg hb]
    unfold hp
    simp only [hb, if_false]
theorem wp_7 {g : Nat → Int32} : am_up (hp h0 m c n jl fd aN aS aB aU aH aD aX aM aW aI aT aA aK aL aF aP) (m + 7) (.inl (1, 120, .inl g)) = (hp h0 m c n jl fd aN aS aB aU aH aD g aM aW aI aT aA aK aL aF aP) := by
  funext b
  unfold am_up
  by_cases hb : b = m + 7
  · rw [if_pos hb, hb, hp_7]
  · rw [if_neg hb]
    unfold hp
    simp only [hb, if_false]
theorem wp_8 {g : Nat → Int32} : am_up (hp h0 m c n jl fd aN aS aB aU aH aD aX aM aW aI aT aA aK aL aF aP) (m + 8) (ints 120 g) = (hp h0 m c n jl fd aN aS aB aU aH aD aX g aW aI aT aA aK aL aF aP) := by
  funext b
  unfold am_up
  by_cases hb : b = m + 8
  · rw [if_pos hb, hb, hp_8]
  · rw [if_neg hb]
    unfold hp
    simp only [hb, if_false]
theorem wp_9 {g : Nat → Int32} : am_up (hp h0 m c n jl fd aN aS aB aU aH aD aX aM aW aI aT aA aK aL aF aP) (m + 9) (ints 1200 g) = (hp h0 m c n jl fd aN aS aB aU aH aD aX aM g aI aT aA aK aL aF aP) := by
  funext b
  unfold am_up
  by_cases hb : b = m + 9
  · rw [if_pos hb, hb, hp_9]
  · rw [if_neg hb]
    unfold hp
    simp only [hb, if_false]
theorem wp_10 {g : Nat → Int32} : am_up (hp h0 m c n jl fd aN aS aB aU aH aD aX aM aW aI aT aA aK aL aF aP) (m + 10) (ints 3 g) = (hp h0 m c n jl fd aN aS aB aU aH aD aX aM aW g aT aA aK aL aF aP) := by
  funext b
  unfold am_up
  by_cases hb : b = m + 10
  · rw [if_pos hb, hb, hp_10]
  · rw [if_neg hb]
    unfold hp
    simp only [hb, if_false]
theorem wp_11 {g : Nat → Int32} : am_up (hp h0 m c n jl fd aN aS aB aU aH aD aX aM aW aI aT aA aK aL aF aP) (m + 11) (ints 96 g) = (hp h0 m c n jl fd aN aS aB aU aH aD aX aM aW aI g aA aK aL aF aP) := by
  funext b
  unfold am_up
  by_cases hb : b = m + 11
  · rw [if_pos hb, hb, hp_11]
  · rw [if_neg hb]
    unfold hp
    simp only [hb, if_false]
theorem wp_12 {g : Nat → Int32} : am_up (hp h0 m c n jl fd aN aS aB aU aH aD aX aM aW aI aT aA aK aL aF aP) (m + 12) (ints 3 g) = (hp h0 m c n jl fd aN aS aB aU aH aD aX aM aW aI aT g aK aL aF aP) := by
  funext b
  unfold am_up
  by_cases hb : b = m + 12
  · rw [if_pos hb, hb, hp_12]
  · rw [if_neg hb]
    unfold hp
    simp only [hb, if_false]
theorem wp_13 {g : Nat → Int32} : am_up (hp h0 m c n jl fd aN aS aB aU aH aD aX aM aW aI aT aA aK aL aF aP) (m + 13) (ints 2560 g) = (hp h0 m c n jl fd aN aS aB aU aH aD aX aM aW aI aT aA g aL aF aP) := by
  funext b
  unfold am_up
  by_cases hb : b = m + 13
  · rw [if_pos hb, hb, hp_13]
  · rw [if_neg hb]
    unfold hp
    simp only [hb, if_false]
theorem wp_14 {g : Nat → Int32} : am_up (hp h0 m c n jl fd aN aS aB aU aH aD aX aM aW aI aT aA aK aL aF aP) (m + 14) (ints 600 g) = (hp h0 m c n jl fd aN aS aB aU aH aD aX aM aW aI aT aA aK g aF aP) := by
  funext b
  unfold am_up
  by_cases hb : b = m + 14
  · rw [if_pos hb, hb, hp_14]
  · rw [if_neg hb]
    unfold hp
    simp only [hb, if_false]
theorem wp_15 {g : Nat → Int32} : am_up (hp h0 m c n jl fd aN aS aB aU aH aD aX aM aW aI aT aA aK aL aF aP) (m + 15) (ints 12 g) = (hp h0 m c n jl fd aN aS aB aU aH aD aX aM aW aI aT aA aK aL g aP) := by
  funext b
  unfold am_up
  by_cases hb : b = m + 15
  · rw [if_pos hb, hb, hp_15]
  · rw [if_neg hb]
    unfold hp
    simp only [hb, if_false]
theorem wp_16 {g : Nat → Int32} : am_up (hp h0 m c n jl fd aN aS aB aU aH aD aX aM aW aI aT aA aK aL aF aP) (m + 16) (ints 64 g) = (hp h0 m c n jl fd aN aS aB aU aH aD aX aM aW aI aT aA aK aL aF g) := by
  funext b
  unfold am_up
  by_cases hb : b = m + 16
  · rw [if_pos hb, hb, hp_16]
  · rw [if_neg hb]
    unfold hp
    simp only [hb, if_false]
theorem wp_o {x : Int32} {j f : Nat} : am_up (hp h0 m c n jl fd aN aS aB aU aH aD aX aM aW aI aT aA aK aL aF aP) m (.inr (7, [.int x, .int (nI n), .ref (m + 1), .ref (m + 2), .ref (m + 3), .ref (m + 4), .ref (m + 5), .ref (m + 6), .ref (m + 7), .ref (m + 8), .ref (m + 9), .ref (m + 10), .ref (m + 11), .ref (m + 12), .ref (m + 13), .int (nI j), .ref (m + 14), .int (nI f), .ref (m + 15), .ref (m + 16)])) = (hp h0 m x n j f aN aS aB aU aH aD aX aM aW aI aT aA aK aL aF aP) := by
  funext b
  unfold am_up
  by_cases hb : b = m
  · rw [if_pos hb, hb, hp_o]
  · rw [if_neg hb]
    unfold hp
    simp only [hb, if_false]
theorem wp_j {x : Int32} {f : Nat} : am_up (hp h0 m c n jl fd aN aS aB aU aH aD aX aM aW aI aT aA aK aL aF aP) m (.inr (7, [.int x, .int (nI n), .ref (m + 1), .ref (m + 2), .ref (m + 3), .ref (m + 4), .ref (m + 5), .ref (m + 6), .ref (m + 7), .ref (m + 8), .ref (m + 9), .ref (m + 10), .ref (m + 11), .ref (m + 12), .ref (m + 13), .int 0, .ref (m + 14), .int (nI f), .ref (m + 15), .ref (m + 16)])) = (hp h0 m x n 0 f aN aS aB aU aH aD aX aM aW aI aT aA aK aL aF aP) := wp_o (j := 0)
theorem wp_f {x : Int32} {j : Nat} : am_up (hp h0 m c n jl fd aN aS aB aU aH aD aX aM aW aI aT aA aK aL aF aP) m (.inr (7, [.int x, .int (nI n), .ref (m + 1), .ref (m + 2), .ref (m + 3), .ref (m + 4), .ref (m + 5), .ref (m + 6), .ref (m + 7), .ref (m + 8), .ref (m + 9), .ref (m + 10), .ref (m + 11), .ref (m + 12), .ref (m + 13), .int (nI j), .ref (m + 14), .int 0, .ref (m + 15), .ref (m + 16)])) = (hp h0 m x n j 0 aN aS aB aU aH aD aX aM aW aI aT aA aK aL aF aP) := wp_o (f := 0)
theorem hp_out {b : Nat} (hb : b < m ∨ m + 17 ≤ b) : (hp h0 m c n jl fd aN aS aB aU aH aD aX aM aW aI aT aA aK aL aF aP) b = h0 b := by
  unfold hp
  rw [if_neg (by omega), if_neg (by omega), if_neg (by omega), if_neg (by omega), if_neg (by omega), if_neg (by omega), if_neg (by omega), if_neg (by omega), if_neg (by omega), if_neg (by omega), if_neg (by omega), if_neg (by omega), if_neg (by omega), if_neg (by omega), if_neg (by omega), if_neg (by omega), if_neg (by omega)]
end
theorem al_0 {n : Nat} {f : Nat → Int32} {K : Int32 → Option am_R} : am_al0 (some (.inl (0, n + 1, .inl f))) 0 K = K (f 0) := by
  unfold am_al0
  dsimp only
  rw [if_pos ⟨Or.inl rfl, (by decide : (0 : Int) ≤ (0 : Int32).toInt), (show (0 : Int) < ((n + 1 : Nat) : Int) by omega)⟩]
  rfl
theorem as_0 {n : Nat} {f : Nat → Int32} {K : Nat → (Nat → Int32) → Option am_R} : am_is (some (.inl (0, n + 1, .inl f))) 0 K = K (n + 1) f := by
  unfold am_is
  dsimp only
  rw [if_pos ⟨rfl, (by decide : (0 : Int) ≤ (0 : Int32).toInt), (show (0 : Int) < ((n + 1 : Nat) : Int) by omega)⟩]
theorem cl0 : (0 : Int32).toNatClampNeg = 0 := rfl
theorem al1_in {n k : Nat} {f : Nat → Int32} {K : Int32 → Option am_R} (h : k < n) (hn : n ≤ 100000) : am_al1 (some (.inl (1, n, .inl f))) (nI k) K = K (f k) := by
  unfold am_al1
  dsimp only
  rw [if_pos ⟨rfl, ix_nI h hn⟩, cl_nI (by omega)]
theorem bs_in {n k : Nat} {f : Nat → Int32} {K : Nat → (Nat → Int32) → Option am_R} (h : k < n) (hn : n ≤ 100000) : am_bs (some (.inl (1, n, .inl f))) (nI k) K = K n f := by
  unfold am_bs
  dsimp only
  rw [if_pos ⟨rfl, ix_nI h hn⟩]
theorem nar1 : vp_nar .boolean 1 = 1 := by decide
theorem nar0 : vp_nar .boolean 0 = 0 := by decide

theorem m8 (t : Nat) : (8 : Int32) * nI t = nI (8 * t) := pk_mul 8 t
theorem m10 (t : Nat) : (10 : Int32) * nI t = nI (10 * t) := pk_mul 10 t
theorem m12 (t : Nat) : (12 : Int32) * nI t = nI (12 * t) := pk_mul 12 t
theorem m32 (t : Nat) : (32 : Int32) * nI t = nI (32 * t) := pk_mul 32 t
theorem m40 (t : Nat) : (40 : Int32) * nI t = nI (40 * t) := pk_mul 40 t
theorem m64 (t : Nat) : (64 : Int32) * nI t = nI (64 * t) := pk_mul 64 t
theorem m400 (t : Nat) : (400 : Int32) * nI t = nI (400 * t) := pk_mul 400 t
theorem m4800 (t : Nat) : (4800 : Int32) * nI t = nI (4800 * t) := pk_mul 4800 t
