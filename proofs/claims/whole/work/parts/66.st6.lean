/-! the reference's constructor -/
section
variable {m k t : Nat} {G : Nat → Option va_E}
theorem ini_1 (w1 : Value) : rn 94 4 [.ref m, w1] [] (am_up G m (.inr (7, [.int 0, .int 0, .null, .null, .null, .null, .null, .null, .null, .null, .null, .null, .null, .null, .null, .int 0, .null, .int 0, .null, .null])), m + 1, k, t) = rn 94 11 [.ref m, w1] [] (am_up (am_up G (m + 1) (.inl (0, 3, .inl (fun _ => 0)))) m (.inr (7, [.int 0, .int 0, .ref (m + 1), .null, .null, .null, .null, .null, .null, .null, .null, .null, .null, .null, .null, .int 0, .null, .int 0, .null, .null])), m + 2, k + 1, t + 3) := by
  have e1 : (3 : Int32).toNatClampNeg = 3 := rfl
  have e2 : ¬ (3 : Int32) < 0 := by decide
  have e3 : ¬ 100000 < (3 : Int32).toNatClampNeg := by rw [e1]; omega
  have hne : m ≠ m + 1 := by omega
  simp only [sX7_init_4, sX7_init_5]
  rw [sX7_init_6 _ _ _ _ _ _ _ e2 e3, e1]
  simp only [sX7_init_8, up_n hne, up_s, pf_2, List.set_cons_zero, List.set_cons_succ]
  rw [up_comm hne, up_up]
theorem ini_2 (w1 : Value) : rn 94 11 [.ref m, w1] [] (am_up G m (.inr (7, [.int 0, .int 0, .ref (m + 1), .null, .null, .null, .null, .null, .null, .null, .null, .null, .null, .null, .null, .int 0, .null, .int 0, .null, .null])), m + 2, k, t) = rn 94 20 [.ref m, w1] [] (am_up (am_up G (m + 2) (.inl (0, 1200, .inl (fun _ => 0)))) m (.inr (7, [.int 0, .int 0, .ref (m + 1), .ref (m + 2), .null, .null, .null, .null, .null, .null, .null, .null, .null, .null, .null, .int 0, .null, .int 0, .null, .null])), m + 3, k + 1, t + 1200) := by
  have e1 : (1200 : Int32).toNatClampNeg = 1200 := rfl
  have e2 : ¬ (1200 : Int32) < 0 := by decide
  have e3 : ¬ 100000 < (1200 : Int32).toNatClampNeg := by rw [e1]; omega
  have hne : m ≠ m + 1 + 1 := by omega
  simp only [sX7_init_11, sX7_init_12]
  rw [sX7_init_15 _ _ _ _ _ _ _ e2 e3, e1]
  simp only [sX7_init_17, up_n hne, up_s, pf_3, List.set_cons_zero, List.set_cons_succ]
  rw [up_comm hne, up_up]
theorem ini_3 (w1 : Value) : rn 94 20 [.ref m, w1] [] (am_up G m (.inr (7, [.int 0, .int 0, .ref (m + 1), .ref (m + 2), .null, .null, .null, .null, .null, .null, .null, .null, .null, .null, .null, .int 0, .null, .int 0, .null, .null])), m + 3, k, t) = rn 94 29 [.ref m, w1] [] (am_up (am_up G (m + 3) (.inl (0, 14400, .inl (fun _ => 0)))) m (.inr (7, [.int 0, .int 0, .ref (m + 1), .ref (m + 2), .ref (m + 3), .null, .null, .null, .null, .null, .null, .null, .null, .null, .null, .int 0, .null, .int 0, .null, .null])), m + 4, k + 1, t + 14400) := by
  have e1 : (14400 : Int32).toNatClampNeg = 14400 := rfl
  have e2 : ¬ (14400 : Int32) < 0 := by decide
  have e3 : ¬ 100000 < (14400 : Int32).toNatClampNeg := by rw [e1]; omega
  have hne : m ≠ m + 2 + 1 := by omega
  simp only [sX7_init_20, sX7_init_21]
  rw [sX7_init_24 _ _ _ _ _ _ _ e2 e3, e1]
  simp only [sX7_init_26, up_n hne, up_s, pf_4, List.set_cons_zero, List.set_cons_succ]
  rw [up_comm hne, up_up]
theorem ini_4 (w1 : Value) : rn 94 29 [.ref m, w1] [] (am_up G m (.inr (7, [.int 0, .int 0, .ref (m + 1), .ref (m + 2), .ref (m + 3), .null, .null, .null, .null, .null, .null, .null, .null, .null, .null, .int 0, .null, .int 0, .null, .null])), m + 4, k, t) = rn 94 38 [.ref m, w1] [] (am_up (am_up G (m + 4) (.inl (0, 1200, .inl (fun _ => 0)))) m (.inr (7, [.int 0, .int 0, .ref (m + 1), .ref (m + 2), .ref (m + 3), .ref (m + 4), .null, .null, .null, .null, .null, .null, .null, .null, .null, .int 0, .null, .int 0, .null, .null])), m + 5, k + 1, t + 1200) := by
  have e1 : (1200 : Int32).toNatClampNeg = 1200 := rfl
  have e2 : ¬ (1200 : Int32) < 0 := by decide
  have e3 : ¬ 100000 < (1200 : Int32).toNatClampNeg := by rw [e1]; omega
  have hne : m ≠ m + 3 + 1 := by omega
  simp only [sX7_init_29, sX7_init_30]
  rw [sX7_init_33 _ _ _ _ _ _ _ e2 e3, e1]
  simp only [sX7_init_35, up_n hne, up_s, pf_5, List.set_cons_zero, List.set_cons_succ]
  rw [up_comm hne, up_up]
theorem ini_5 (w1 : Value) : rn 94 38 [.ref m, w1] [] (am_up G m (.inr (7, [.int 0, .int 0, .ref (m + 1), .ref (m + 2), .ref (m + 3), .ref (m + 4), .null, .null, .null, .null, .null, .null, .null, .null, .null, .int 0, .null, .int 0, .null, .null])), m + 5, k, t) = rn 94 47 [.ref m, w1] [] (am_up (am_up G (m + 5) (.inl (0, 1200, .inl (fun _ => 0)))) m (.inr (7, [.int 0, .int 0, .ref (m + 1), .ref (m + 2), .ref (m + 3), .ref (m + 4), .ref (m + 5), .null, .null, .null, .null, .null, .null, .null, .null, .int 0, .null, .int 0, .null, .null])), m + 6, k + 1, t + 1200) := by
  have e1 : (1200 : Int32).toNatClampNeg = 1200 := rfl
  have e2 : ¬ (1200 : Int32) < 0 := by decide
  have e3 : ¬ 100000 < (1200 : Int32).toNatClampNeg := by rw [e1]; omega
  have hne : m ≠ m + 4 + 1 := by omega
  simp only [sX7_init_38, sX7_init_39]
  rw [sX7_init_42 _ _ _ _ _ _ _ e2 e3, e1]
  simp only [sX7_init_44, up_n hne, up_s, pf_6, List.set_cons_zero, List.set_cons_succ]
  rw [up_comm hne, up_up]
theorem ini_6 (w1 : Value) : rn 94 47 [.ref m, w1] [] (am_up G m (.inr (7, [.int 0, .int 0, .ref (m + 1), .ref (m + 2), .ref (m + 3), .ref (m + 4), .ref (m + 5), .null, .null, .null, .null, .null, .null, .null, .null, .int 0, .null, .int 0, .null, .null])), m + 6, k, t) = rn 94 55 [.ref m, w1] [] (am_up (am_up G (m + 6) (.inl (0, 120, .inl (fun _ => 0)))) m (.inr (7, [.int 0, .int 0, .ref (m + 1), .ref (m + 2), .ref (m + 3), .ref (m + 4), .ref (m + 5), .ref (m + 6), .null, .null, .null, .null, .null, .null, .null, .int 0, .null, .int 0, .null, .null])), m + 7, k + 1, t + 120) := by
  have e1 : (120 : Int32).toNatClampNeg = 120 := rfl
  have e2 : ¬ (120 : Int32) < 0 := by decide
  have e3 : ¬ 100000 < (120 : Int32).toNatClampNeg := by rw [e1]; omega
  have hne : m ≠ m + 5 + 1 := by omega
  simp only [sX7_init_47, sX7_init_48]
  rw [sX7_init_50 _ _ _ _ _ _ _ e2 e3, e1]
  simp only [sX7_init_52, up_n hne, up_s, pf_7, List.set_cons_zero, List.set_cons_succ]
  rw [up_comm hne, up_up]
theorem ini_7 (w1 : Value) : rn 94 55 [.ref m, w1] [] (am_up G m (.inr (7, [.int 0, .int 0, .ref (m + 1), .ref (m + 2), .ref (m + 3), .ref (m + 4), .ref (m + 5), .ref (m + 6), .null, .null, .null, .null, .null, .null, .null, .int 0, .null, .int 0, .null, .null])), m + 7, k, t) = rn 94 63 [.ref m, w1] [] (am_up (am_up G (m + 7) (.inl (1, 120, .inl (fun _ => 0)))) m (.inr (7, [.int 0, .int 0, .ref (m + 1), .ref (m + 2), .ref (m + 3), .ref (m + 4), .ref (m + 5), .ref (m + 6), .ref (m + 7), .null, .null, .null, .null, .null, .null, .int 0, .null, .int 0, .null, .null])), m + 8, k + 1, t + 120) := by
  have e1 : (120 : Int32).toNatClampNeg = 120 := rfl
  have e2 : ¬ (120 : Int32) < 0 := by decide
  have e3 : ¬ 100000 < (120 : Int32).toNatClampNeg := by rw [e1]; omega
  have hne : m ≠ m + 6 + 1 := by omega
  simp only [sX7_init_55, sX7_init_56]
  rw [sX7_init_58 _ _ _ _ _ _ _ e2 e3, e1]
  simp only [sX7_init_60, up_n hne, up_s, pf_8, List.set_cons_zero, List.set_cons_succ]
  rw [up_comm hne, up_up]
theorem ini_8 (w1 : Value) : rn 94 63 [.ref m, w1] [] (am_up G m (.inr (7, [.int 0, .int 0, .ref (m + 1), .ref (m + 2), .ref (m + 3), .ref (m + 4), .ref (m + 5), .ref (m + 6), .ref (m + 7), .null, .null, .null, .null, .null, .null, .int 0, .null, .int 0, .null, .null])), m + 8, k, t) = rn 94 71 [.ref m, w1] [] (am_up (am_up G (m + 8) (.inl (0, 120, .inl (fun _ => 0)))) m (.inr (7, [.int 0, .int 0, .ref (m + 1), .ref (m + 2), .ref (m + 3), .ref (m + 4), .ref (m + 5), .ref (m + 6), .ref (m + 7), .ref (m + 8), .null, .null, .null, .null, .null, .int 0, .null, .int 0, .null, .null])), m + 9, k + 1, t + 120) := by
  have e1 : (120 : Int32).toNatClampNeg = 120 := rfl
  have e2 : ¬ (120 : Int32) < 0 := by decide
  have e3 : ¬ 100000 < (120 : Int32).toNatClampNeg := by rw [e1]; omega
  have hne : m ≠ m + 7 + 1 := by omega
  simp only [sX7_init_63, sX7_init_64]
  rw [sX7_init_66 _ _ _ _ _ _ _ e2 e3, e1]
  simp only [sX7_init_68, up_n hne, up_s, pf_9, List.set_cons_zero, List.set_cons_succ]
  rw [up_comm hne, up_up]
theorem ini_9 (w1 : Value) : rn 94 71 [.ref m, w1] [] (am_up G m (.inr (7, [.int 0, .int 0, .ref (m + 1), .ref (m + 2), .ref (m + 3), .ref (m + 4), .ref (m + 5), .ref (m + 6), .ref (m + 7), .ref (m + 8), .null, .null, .null, .null, .null, .int 0, .null, .int 0, .null, .null])), m + 9, k, t) = rn 94 80 [.ref m, w1] [] (am_up (am_up G (m + 9) (.inl (0, 1200, .inl (fun _ => 0)))) m (.inr (7, [.int 0, .int 0, .ref (m + 1), .ref (m + 2), .ref (m + 3), .ref (m + 4), .ref (m + 5), .ref (m + 6), .ref (m + 7), .ref (m + 8), .ref (m + 9), .null, .null, .null, .null, .int 0, .null, .int 0, .null, .null])), m + 10, k + 1, t + 1200) := by
  have e1 : (1200 : Int32).toNatClampNeg = 1200 := rfl
  have e2 : ¬ (1200 : Int32) < 0 := by decide
  have e3 : ¬ 100000 < (1200 : Int32).toNatClampNeg := by rw [e1]; omega
  have hne : m ≠ m + 8 + 1 := by omega
  simp only [sX7_init_71, sX7_init_72]
  rw [sX7_init_75 _ _ _ _ _ _ _ e2 e3, e1]
  simp only [sX7_init_77, up_n hne, up_s, pf_10, List.set_cons_zero, List.set_cons_succ]
  rw [up_comm hne, up_up]
theorem ini_10 (w1 : Value) : rn 94 80 [.ref m, w1] [] (am_up G m (.inr (7, [.int 0, .int 0, .ref (m + 1), .ref (m + 2), .ref (m + 3), .ref (m + 4), .ref (m + 5), .ref (m + 6), .ref (m + 7), .ref (m + 8), .ref (m + 9), .null, .null, .null, .null, .int 0, .null, .int 0, .null, .null])), m + 10, k, t) = rn 94 87 [.ref m, w1] [] (am_up (am_up G (m + 10) (.inl (0, 3, .inl (fun _ => 0)))) m (.inr (7, [.int 0, .int 0, .ref (m + 1), .ref (m + 2), .ref (m + 3), .ref (m + 4), .ref (m + 5), .ref (m + 6), .ref (m + 7), .ref (m + 8), .ref (m + 9), .ref (m + 10), .null, .null, .null, .int 0, .null, .int 0, .null, .null])), m + 11, k + 1, t + 3) := by
  have e1 : (3 : Int32).toNatClampNeg = 3 := rfl
  have e2 : ¬ (3 : Int32) < 0 := by decide
  have e3 : ¬ 100000 < (3 : Int32).toNatClampNeg := by rw [e1]; omega
  have hne : m ≠ m + 9 + 1 := by omega
  simp only [sX7_init_80, sX7_init_81]
  rw [sX7_init_82 _ _ _ _ _ _ _ e2 e3, e1]
  simp only [sX7_init_84, up_n hne, up_s, pf_11, List.set_cons_zero, List.set_cons_succ]
  rw [up_comm hne, up_up]
theorem ini_11 (w1 : Value) : rn 94 87 [.ref m, w1] [] (am_up G m (.inr (7, [.int 0, .int 0, .ref (m + 1), .ref (m + 2), .ref (m + 3), .ref (m + 4), .ref (m + 5), .ref (m + 6), .ref (m + 7), .ref (m + 8), .ref (m + 9), .ref (m + 10), .null, .null, .null, .int 0, .null, .int 0, .null, .null])), m + 11, k, t) = rn 94 95 [.ref m, w1] [] (am_up (am_up G (m + 11) (.inl (0, 96, .inl (fun _ => 0)))) m (.inr (7, [.int 0, .int 0, .ref (m + 1), .ref (m + 2), .ref (m + 3), .ref (m + 4), .ref (m + 5), .ref (m + 6), .ref (m + 7), .ref (m + 8), .ref (m + 9), .ref (m + 10), .ref (m + 11), .null, .null, .int 0, .null, .int 0, .null, .null])), m + 12, k + 1, t + 96) := by
  have e1 : (96 : Int32).toNatClampNeg = 96 := rfl
  have e2 : ¬ (96 : Int32) < 0 := by decide
  have e3 : ¬ 100000 < (96 : Int32).toNatClampNeg := by rw [e1]; omega
  have hne : m ≠ m + 10 + 1 := by omega
  simp only [sX7_init_87, sX7_init_88]
  rw [sX7_init_90 _ _ _ _ _ _ _ e2 e3, e1]
  simp only [sX7_init_92, up_n hne, up_s, pf_12, List.set_cons_zero, List.set_cons_succ]
  rw [up_comm hne, up_up]
theorem ini_12 (w1 : Value) : rn 94 95 [.ref m, w1] [] (am_up G m (.inr (7, [.int 0, .int 0, .ref (m + 1), .ref (m + 2), .ref (m + 3), .ref (m + 4), .ref (m + 5), .ref (m + 6), .ref (m + 7), .ref (m + 8), .ref (m + 9), .ref (m + 10), .ref (m + 11), .null, .null, .int 0, .null, .int 0, .null, .null])), m + 12, k, t) = rn 94 102 [.ref m, w1] [] (am_up (am_up G (m + 12) (.inl (0, 3, .inl (fun _ => 0)))) m (.inr (7, [.int 0, .int 0, .ref (m + 1), .ref (m + 2), .ref (m + 3), .ref (m + 4), .ref (m + 5), .ref (m + 6), .ref (m + 7), .ref (m + 8), .ref (m + 9), .ref (m + 10), .ref (m + 11), .ref (m + 12), .null, .int 0, .null, .int 0, .null, .null])), m + 13, k + 1, t + 3) := by
  have e1 : (3 : Int32).toNatClampNeg = 3 := rfl
  have e2 : ¬ (3 : Int32) < 0 := by decide
  have e3 : ¬ 100000 < (3 : Int32).toNatClampNeg := by rw [e1]; omega
  have hne : m ≠ m + 11 + 1 := by omega
  simp only [sX7_init_95, sX7_init_96]
  rw [sX7_init_97 _ _ _ _ _ _ _ e2 e3, e1]
  simp only [sX7_init_99, up_n hne, up_s, pf_13, List.set_cons_zero, List.set_cons_succ]
  rw [up_comm hne, up_up]
theorem ini_13 (w1 : Value) : rn 94 102 [.ref m, w1] [] (am_up G m (.inr (7, [.int 0, .int 0, .ref (m + 1), .ref (m + 2), .ref (m + 3), .ref (m + 4), .ref (m + 5), .ref (m + 6), .ref (m + 7), .ref (m + 8), .ref (m + 9), .ref (m + 10), .ref (m + 11), .ref (m + 12), .null, .int 0, .null, .int 0, .null, .null])), m + 13, k, t) = rn 94 111 [.ref m, w1] [] (am_up (am_up G (m + 13) (.inl (0, 2560, .inl (fun _ => 0)))) m (.inr (7, [.int 0, .int 0, .ref (m + 1), .ref (m + 2), .ref (m + 3), .ref (m + 4), .ref (m + 5), .ref (m + 6), .ref (m + 7), .ref (m + 8), .ref (m + 9), .ref (m + 10), .ref (m + 11), .ref (m + 12), .ref (m + 13), .int 0, .null, .int 0, .null, .null])), m + 14, k + 1, t + 2560) := by
  have e1 : (2560 : Int32).toNatClampNeg = 2560 := rfl
  have e2 : ¬ (2560 : Int32) < 0 := by decide
  have e3 : ¬ 100000 < (2560 : Int32).toNatClampNeg := by rw [e1]; omega
  have hne : m ≠ m + 12 + 1 := by omega
  simp only [sX7_init_102, sX7_init_103]
  rw [sX7_init_106 _ _ _ _ _ _ _ e2 e3, e1]
  simp only [sX7_init_108, up_n hne, up_s, pf_14, List.set_cons_zero, List.set_cons_succ]
  rw [up_comm hne, up_up]
theorem ini_14 (w1 : Value) : rn 94 111 [.ref m, w1] [] (am_up G m (.inr (7, [.int 0, .int 0, .ref (m + 1), .ref (m + 2), .ref (m + 3), .ref (m + 4), .ref (m + 5), .ref (m + 6), .ref (m + 7), .ref (m + 8), .ref (m + 9), .ref (m + 10), .ref (m + 11), .ref (m + 12), .ref (m + 13), .int 0, .null, .int 0, .null, .null])), m + 14, k, t) = rn 94 120 [.ref m, w1] [] (am_up (am_up G (m + 14) (.inl (0, 600, .inl (fun _ => 0)))) m (.inr (7, [.int 0, .int 0, .ref (m + 1), .ref (m + 2), .ref (m + 3), .ref (m + 4), .ref (m + 5), .ref (m + 6), .ref (m + 7), .ref (m + 8), .ref (m + 9), .ref (m + 10), .ref (m + 11), .ref (m + 12), .ref (m + 13), .int 0, .ref (m + 14), .int 0, .null, .null])), m + 15, k + 1, t + 600) := by
  have e1 : (600 : Int32).toNatClampNeg = 600 := rfl
  have e2 : ¬ (600 : Int32) < 0 := by decide
  have e3 : ¬ 100000 < (600 : Int32).toNatClampNeg := by rw [e1]; omega
  have hne : m ≠ m + 13 + 1 := by omega
  simp only [sX7_init_111, sX7_init_112]
  rw [sX7_init_115 _ _ _ _ _ _ _ e2 e3, e1]
  simp only [sX7_init_117, up_n hne, up_s, pf_16, List.set_cons_zero, List.set_cons_succ]
  rw [up_comm hne, up_up]
theorem ini_15 (w1 : Value) : rn 94 120 [.ref m, w1] [] (am_up G m (.inr (7, [.int 0, .int 0, .ref (m + 1), .ref (m + 2), .ref (m + 3), .ref (m + 4), .ref (m + 5), .ref (m + 6), .ref (m + 7), .ref (m + 8), .ref (m + 9), .ref (m + 10), .ref (m + 11), .ref (m + 12), .ref (m + 13), .int 0, .ref (m + 14), .int 0, .null, .null])), m + 15, k, t) = rn 94 128 [.ref m, w1] [] (am_up (am_up G (m + 15) (.inl (0, 12, .inl (fun _ => 0)))) m (.inr (7, [.int 0, .int 0, .ref (m + 1), .ref (m + 2), .ref (m + 3), .ref (m + 4), .ref (m + 5), .ref (m + 6), .ref (m + 7), .ref (m + 8), .ref (m + 9), .ref (m + 10), .ref (m + 11), .ref (m + 12), .ref (m + 13), .int 0, .ref (m + 14), .int 0, .ref (m + 15), .null])), m + 16, k + 1, t + 12) := by
  have e1 : (12 : Int32).toNatClampNeg = 12 := rfl
  have e2 : ¬ (12 : Int32) < 0 := by decide
  have e3 : ¬ 100000 < (12 : Int32).toNatClampNeg := by rw [e1]; omega
  have hne : m ≠ m + 14 + 1 := by omega
  simp only [sX7_init_120, sX7_init_121]
  rw [sX7_init_123 _ _ _ _ _ _ _ e2 e3, e1]
  simp only [sX7_init_125, up_n hne, up_s, pf_18, List.set_cons_zero, List.set_cons_succ]
  rw [up_comm hne, up_up]
theorem ini_16 (w1 : Value) : rn 94 128 [.ref m, w1] [] (am_up G m (.inr (7, [.int 0, .int 0, .ref (m + 1), .ref (m + 2), .ref (m + 3), .ref (m + 4), .ref (m + 5), .ref (m + 6), .ref (m + 7), .ref (m + 8), .ref (m + 9), .ref (m + 10), .ref (m + 11), .ref (m + 12), .ref (m + 13), .int 0, .ref (m + 14), .int 0, .ref (m + 15), .null])), m + 16, k, t) = rn 94 136 [.ref m, w1] [] (am_up (am_up G (m + 16) (.inl (0, 64, .inl (fun _ => 0)))) m (.inr (7, [.int 0, .int 0, .ref (m + 1), .ref (m + 2), .ref (m + 3), .ref (m + 4), .ref (m + 5), .ref (m + 6), .ref (m + 7), .ref (m + 8), .ref (m + 9), .ref (m + 10), .ref (m + 11), .ref (m + 12), .ref (m + 13), .int 0, .ref (m + 14), .int 0, .ref (m + 15), .ref (m + 16)])), m + 17, k + 1, t + 64) := by
  have e1 : (64 : Int32).toNatClampNeg = 64 := rfl
  have e2 : ¬ (64 : Int32) < 0 := by decide
  have e3 : ¬ 100000 < (64 : Int32).toNatClampNeg := by rw [e1]; omega
  have hne : m ≠ m + 15 + 1 := by omega
  simp only [sX7_init_128, sX7_init_129]
  rw [sX7_init_131 _ _ _ _ _ _ _ e2 e3, e1]
  simp only [sX7_init_133, up_n hne, up_s, pf_19, List.set_cons_zero, List.set_cons_succ]
  rw [up_comm hne, up_up]
end
section
variable {h0 : Nat → Option va_E} {m n jl fd : Nat} {c : Int32} {aN aS aB aU aH aD aX aM aW aI aT aA aK aL aF aP : Nat → Int32}
theorem hp_mk : am_up (am_up (am_up (am_up (am_up (am_up (am_up (am_up (am_up (am_up (am_up (am_up (am_up (am_up (am_up (am_up (am_up h0 (m + 1) (.inl (0, 3, .inl aN))) (m + 2) (.inl (0, 1200, .inl aS))) (m + 3) (.inl (0, 14400, .inl aB))) (m + 4) (.inl (0, 1200, .inl aU))) (m + 5) (.inl (0, 1200, .inl aH))) (m + 6) (.inl (0, 120, .inl aD))) (m + 7) (.inl (1, 120, .inl aX))) (m + 8) (.inl (0, 120, .inl aM))) (m + 9) (.inl (0, 1200, .inl aW))) (m + 10) (.inl (0, 3, .inl aI))) (m + 11) (.inl (0, 96, .inl aT))) (m + 12) (.inl (0, 3, .inl aA))) (m + 13) (.inl (0, 2560, .inl aK))) (m + 14) (.inl (0, 600, .inl aL))) (m + 15) (.inl (0, 12, .inl aF))) (m + 16) (.inl (0, 64, .inl aP))) m (obj 7 [.int c, .int (nI n), .ref (m + 1), .ref (m + 2), .ref (m + 3), .ref (m + 4), .ref (m + 5), .ref (m + 6), .ref (m + 7), .ref (m + 8), .ref (m + 9), .ref (m + 10), .ref (m + 11), .ref (m + 12), .ref (m + 13), .int (nI jl), .ref (m + 14), .int (nI fd), .ref (m + 15), .ref (m + 16)]) = hp h0 m c n jl fd aN aS aB aU aH aD aX aM aW aI aT aA aK aL aF aP := by
  funext b
  by_cases hb : b < m ∨ m + 17 ≤ b
  · rw [hp_out hb]
    rw [up_n (by omega), up_n (by omega), up_n (by omega), up_n (by omega), up_n (by omega), up_n (by omega), up_n (by omega), up_n (by omega), up_n (by omega), up_n (by omega), up_n (by omega), up_n (by omega), up_n (by omega), up_n (by omega), up_n (by omega), up_n (by omega), up_n (by omega)]
  · have hc : b = m ∨ b = m + 1 ∨ b = m + 2 ∨ b = m + 3 ∨ b = m + 4 ∨ b = m + 5 ∨ b = m + 6 ∨ b = m + 7 ∨ b = m + 8 ∨ b = m + 9 ∨ b = m + 10 ∨ b = m + 11 ∨ b = m + 12 ∨ b = m + 13 ∨ b = m + 14 ∨ b = m + 15 ∨ b = m + 16 := by omega
    rcases hc with rfl | rfl | rfl | rfl | rfl | rfl | rfl | rfl | rfl | rfl | rfl | rfl | rfl | rfl | rfl | rfl | rfl
    · exact (up_s _ _ _).trans hp_o.symm
    · rw [hp_1, up_n (by omega), up_n (by omega), up_n (by omega), up_n (by omega), up_n (by omega), up_n (by omega), up_n (by omega), up_n (by omega), up_n (by omega), up_n (by omega), up_n (by omega), up_n (by omega), up_n (by omega), up_n (by omega), up_n (by omega), up_n (by omega)]; exact up_s _ _ _
    · rw [hp_2, up_n (by omega), up_n (by omega), up_n (by omega), up_n (by omega), up_n (by omega), up_n (by omega), up_n (by omega), up_n (by omega), up_n (by omega), up_n (by omega), up_n (by omega), up_n (by omega), up_n (by omega), up_n (by omega), up_n (by omega)]; exact up_s _ _ _
    · rw [hp_3, up_n (by omega), up_n (by omega), up_n (by omega), up_n (by omega), up_n (by omega), up_n (by omega), up_n (by omega), up_n (by omega), up_n (by omega), up_n (by omega), up_n (by omega), up_n (by omega), up_n (by omega), up_n (by omega)]; exact up_s _ _ _
    · rw [hp_4, up_n (by omega), up_n (by omega), up_n (by omega), up_n (by omega), up_n (by omega), up_n (by omega), up_n (by omega), up_n (by omega), up_n (by omega), up_n (by omega), up_n (by omega), up_n (by omega), up_n (by omega)]; exact up_s _ _ _
    · rw [hp_5, up_n (by omega), up_n (by omega), up_n (by omega), up_n (by omega), up_n (by omega), up_n (by omega), up_n (by omega), up_n (by omega), up_n (by omega), up_n (by omega), up_n (by omega), up_n (by omega)]; exact up_s _ _ _
    · rw [hp_6, up_n (by omega), up_n (by omega), up_n (by omega), up_n (by omega), up_n (by omega), up_n (by omega), up_n (by omega), up_n (by omega), up_n (by omega), up_n (by omega), up_n (by omega)]; exact up_s _ _ _
    · rw [hp_7, up_n (by omega), up_n (by omega), up_n (by omega), up_n (by omega), up_n (by omega), up_n (by omega), up_n (by omega), up_n (by omega), up_n (by omega), up_n (by omega)]; exact up_s _ _ _
    · rw [hp_8, up_n (by omega), up_n (by omega), up_n (by omega), up_n (by omega), up_n (by omega), up_n (by omega), up_n (by omega), up_n (by omega), up_n (by omega)]; exact up_s _ _ _
    · rw [hp_9, up_n (by omega), up_n (by omega), up_n (by omega), up_n (by omega), up_n (by omega), up_n (by omega), up_n (by omega), up_n (by omega)]; exact up_s _ _ _
    · rw [hp_10, up_n (by omega), up_n (by omega), up_n (by omega), up_n (by omega), up_n (by omega), up_n (by omega), up_n (by omega)]; exact up_s _ _ _
    · rw [hp_11, up_n (by omega), up_n (by omega), up_n (by omega), up_n (by omega), up_n (by omega), up_n (by omega)]; exact up_s _ _ _
    · rw [hp_12, up_n (by omega), up_n (by omega), up_n (by omega), up_n (by omega), up_n (by omega)]; exact up_s _ _ _
    · rw [hp_13, up_n (by omega), up_n (by omega), up_n (by omega), up_n (by omega)]; exact up_s _ _ _
    · rw [hp_14, up_n (by omega), up_n (by omega), up_n (by omega)]; exact up_s _ _ _
    · rw [hp_15, up_n (by omega), up_n (by omega)]; exact up_s _ _ _
    · rw [hp_16, up_n (by omega)]; exact up_s _ _ _
theorem wp_n {n' : Nat} : am_up (hp h0 m c n jl fd aN aS aB aU aH aD aX aM aW aI aT aA aK aL aF aP) m (.inr (7, [.int c, .int (nI n'), .ref (m + 1), .ref (m + 2), .ref (m + 3), .ref (m + 4), .ref (m + 5), .ref (m + 6), .ref (m + 7), .ref (m + 8), .ref (m + 9), .ref (m + 10), .ref (m + 11), .ref (m + 12), .ref (m + 13), .int (nI jl), .ref (m + 14), .int (nI fd), .ref (m + 15), .ref (m + 16)])) = hp h0 m c n' jl fd aN aS aB aU aH aD aX aM aW aI aT aA aK aL aF aP := by
  funext b
  unfold am_up
  by_cases hb : b = m
  · rw [if_pos hb, hb, hp_o]
  · rw [if_neg hb]
    unfold hp
    simp only [hb, if_false]
end
theorem bs_0 {n : Nat} {f : Nat → Int32} {K : Nat → (Nat → Int32) → Option am_R} : am_bs (some (.inl (1, n + 1, .inl f))) 0 K = K (n + 1) f := by
  unfold am_bs
  dsimp only
  rw [if_pos ⟨rfl, (by decide : (0 : Int) ≤ (0 : Int32).toInt), (show (0 : Int) < ((n + 1 : Nat) : Int) by omega)⟩]
theorem cnt0 : ∀ n, cnt S0 n = 0
  | 0 => rfl
  | n + 1 => by rw [cnt, cnt0 n]; rfl
theorem Rl0_0 {n : Nat} (hn : n ≤ 40) : Rl 0 n S0 (fun _ => 0) (fun _ => 0) (fun _ => 0) (fun _ => 0) (fun _ => 0) (fun _ => 0) (upd (fun _ => 0) 0 1) (fun _ => 0) (fun _ => 0) (fun _ => 0) (fun _ => 0) (fun _ => 0) := by
  refine ⟨0, fun _ => [], fun _ => 0, fun _ => [], rfl, ?_⟩
  simp only [sl_0]
  refine ⟨⟨rfl, rfl⟩, fun j hj => by omega, fun p hp => ⟨rfl, ?_, rfl, fun r hr => (by cases hr), rfl, fun j hj => (by cases hj)⟩, fun e he => rfl, fun j hj => by omega, fun i j hi => by omega, (cnt0 n).symm⟩
  show upd (fun _ => 0) 0 1 p = if p < 1 then 1 else 0
  by_cases e : p = 0
  · rw [e, upd_s, if_pos (by omega)]
  · rw [upd_n e, if_neg (by omega)]
theorem ini_a {h : Nat → Option va_E} {m k t : Nat} (x : Int32) (hm : h m = some (obj 7 [.int 0, .int 0, .null, .null, .null, .null, .null, .null, .null, .null, .null, .null, .null, .null, .null, .int 0, .null, .int 0, .null, .null])) : cl 94 [.ref m, .int x] (h, m + 1, k, t) = rn 94 136 [.ref m, .int x] [] (hp h m 0 0 0 0 (fun _ => 0) (fun _ => 0) (fun _ => 0) (fun _ => 0) (fun _ => 0) (fun _ => 0) (fun _ => 0) (fun _ => 0) (fun _ => 0) (fun _ => 0) (fun _ => 0) (fun _ => 0) (fun _ => 0) (fun _ => 0) (fun _ => 0) (fun _ => 0), m + 17, k + 16, t + 22901) := by
  generalize hT : t + 22901 = T9
  rw [eX7_init]
  simp only [sX7_init_0, sX7_init_1, List.length_nil, Nat.reduceLeDiff]
  have hh : h = am_up h m (.inr (7, [.int 0, .int 0, .null, .null, .null, .null, .null, .null, .null, .null, .null, .null, .null, .null, .null, .int 0, .null, .int 0, .null, .null])) := (up_self hm).symm
  conv => lhs; rw [hh]
  rw [ini_1]
  rw [ini_2]
  rw [ini_3]
  rw [ini_4]
  rw [ini_5]
  rw [ini_6]
  rw [ini_7]
  rw [ini_8]
  rw [ini_9]
  rw [ini_10]
  rw [ini_11]
  rw [ini_12]
  rw [ini_13]
  rw [ini_14]
  rw [ini_15]
  rw [ini_16]
  have ht : t + 3 + 1200 + 14400 + 1200 + 1200 + 120 + 120 + 120 + 1200 + 3 + 96 + 3 + 2560 + 600 + 12 + 64 = T9 := by
    refine Eq.trans ?_ hT
    simp only [Nat.add_assoc, Nat.reduceAdd]
  have hk : k + 1 + 1 + 1 + 1 + 1 + 1 + 1 + 1 + 1 + 1 + 1 + 1 + 1 + 1 + 1 + 1 = k + 16 := by omega
  rw [← hp_mk, ht, hk]
  rfl
theorem ini_b {h : Nat → Option va_E} {m n : Nat} {z : Nat × Nat × Nat} (x : Int32) (hx : npg x = n) : rn 94 136 [.ref m, .int x] [] (hp h m 0 0 0 0 (fun _ => 0) (fun _ => 0) (fun _ => 0) (fun _ => 0) (fun _ => 0) (fun _ => 0) (fun _ => 0) (fun _ => 0) (fun _ => 0) (fun _ => 0) (fun _ => 0) (fun _ => 0) (fun _ => 0) (fun _ => 0) (fun _ => 0) (fun _ => 0), z) = rn 94 161 [.ref m, .int x] [] (hp h m 0 n 0 0 (fun _ => 0) (fun _ => 0) (fun _ => 0) (fun _ => 0) (fun _ => 0) (fun _ => 0) (fun _ => 0) (fun _ => 0) (fun _ => 0) (fun _ => 0) (fun _ => 0) (fun _ => 0) (fun _ => 0) (fun _ => 0) (fun _ => 0) (fun _ => 0), z) := by
  have e0 : ((1 : Int32) ≤ x) ↔ ¬ x < 1 := Int32.not_lt.symm
  have e1 : (x ≤ (40 : Int32)) ↔ ¬ 40 < x := Int32.not_lt.symm
  rw [sX7_init_136]
  unfold npg at hx
  by_cases q1 : x < 1
  · rw [if_pos q1] at hx
    have q2 : ¬ (1 : Int32) ≤ x := fun y => e0.mp y q1
    simp only [sX7_init_0, sX7_init_1, sX7_init_4, sX7_init_5, sX7_init_6, sX7_init_8, sX7_init_11, sX7_init_12, sX7_init_15, sX7_init_17, sX7_init_20, sX7_init_21, sX7_init_24, sX7_init_26, sX7_init_29, sX7_init_30, sX7_init_33, sX7_init_35, sX7_init_38, sX7_init_39, sX7_init_42, sX7_init_44, sX7_init_47, sX7_init_48, sX7_init_50, sX7_init_52, sX7_init_55, sX7_init_56, sX7_init_58, sX7_init_60, sX7_init_63, sX7_init_64, sX7_init_66, sX7_init_68, sX7_init_71, sX7_init_72, sX7_init_75, sX7_init_77, sX7_init_80, sX7_init_81, sX7_init_82, sX7_init_84, sX7_init_87, sX7_init_88, sX7_init_90, sX7_init_92, sX7_init_95, sX7_init_96, sX7_init_97, sX7_init_99, sX7_init_102, sX7_init_103, sX7_init_106, sX7_init_108, sX7_init_111, sX7_init_112, sX7_init_115, sX7_init_117, sX7_init_120, sX7_init_121, sX7_init_123, sX7_init_125, sX7_init_128, sX7_init_129, sX7_init_131, sX7_init_133, sX7_init_137, sX7_init_138, sX7_init_139, sX7_init_142, sX7_init_143, sX7_init_146, sX7_init_147, sX7_init_149, sX7_init_152, sX7_init_154, sX7_init_157, sX7_init_158, sX7_init_162, sX7_init_165, sX7_init_166, sX7_init_167, sX7_init_168, sX7_init_169, sX7_init_170, sX7_init_171, sX7_init_174, q2, if_false, hp_o, pf_1, List.set_cons_zero, List.set_cons_succ]
    rw [← hx, show (1 : Int32) = nI 1 from rfl, wp_n]
  · rw [if_neg q1] at hx
    have q2 : (1 : Int32) ≤ x := e0.mpr q1
    by_cases q3 : 40 < x
    · rw [if_pos q3] at hx
      have q4 : ¬ x ≤ (40 : Int32) := fun y => e1.mp y q3
      simp only [sX7_init_0, sX7_init_1, sX7_init_4, sX7_init_5, sX7_init_6, sX7_init_8, sX7_init_11, sX7_init_12, sX7_init_15, sX7_init_17, sX7_init_20, sX7_init_21, sX7_init_24, sX7_init_26, sX7_init_29, sX7_init_30, sX7_init_33, sX7_init_35, sX7_init_38, sX7_init_39, sX7_init_42, sX7_init_44, sX7_init_47, sX7_init_48, sX7_init_50, sX7_init_52, sX7_init_55, sX7_init_56, sX7_init_58, sX7_init_60, sX7_init_63, sX7_init_64, sX7_init_66, sX7_init_68, sX7_init_71, sX7_init_72, sX7_init_75, sX7_init_77, sX7_init_80, sX7_init_81, sX7_init_82, sX7_init_84, sX7_init_87, sX7_init_88, sX7_init_90, sX7_init_92, sX7_init_95, sX7_init_96, sX7_init_97, sX7_init_99, sX7_init_102, sX7_init_103, sX7_init_106, sX7_init_108, sX7_init_111, sX7_init_112, sX7_init_115, sX7_init_117, sX7_init_120, sX7_init_121, sX7_init_123, sX7_init_125, sX7_init_128, sX7_init_129, sX7_init_131, sX7_init_133, sX7_init_137, sX7_init_138, sX7_init_139, sX7_init_142, sX7_init_143, sX7_init_146, sX7_init_147, sX7_init_149, sX7_init_152, sX7_init_154, sX7_init_157, sX7_init_158, sX7_init_162, sX7_init_165, sX7_init_166, sX7_init_167, sX7_init_168, sX7_init_169, sX7_init_170, sX7_init_171, sX7_init_174, q2, q4, if_true, if_false, hp_o, pf_1, List.set_cons_zero, List.set_cons_succ]
      rw [← hx, show (40 : Int32) = nI 40 from rfl, wp_n]
    · rw [if_neg q3] at hx
      have q4 : x ≤ (40 : Int32) := e1.mpr q3
      simp only [sX7_init_0, sX7_init_1, sX7_init_4, sX7_init_5, sX7_init_6, sX7_init_8, sX7_init_11, sX7_init_12, sX7_init_15, sX7_init_17, sX7_init_20, sX7_init_21, sX7_init_24, sX7_init_26, sX7_init_29, sX7_init_30, sX7_init_33, sX7_init_35, sX7_init_38, sX7_init_39, sX7_init_42, sX7_init_44, sX7_init_47, sX7_init_48, sX7_init_50, sX7_init_52, sX7_init_55, sX7_init_56, sX7_init_58, sX7_init_60, sX7_init_63, sX7_init_64, sX7_init_66, sX7_init_68, sX7_init_71, sX7_init_72, sX7_init_75, sX7_init_77, sX7_init_80, sX7_init_81, sX7_init_82, sX7_init_84, sX7_init_87, sX7_init_88, sX7_init_90, sX7_init_92, sX7_init_95, sX7_init_96, sX7_init_97, sX7_init_99, sX7_init_102, sX7_init_103, sX7_init_106, sX7_init_108, sX7_init_111, sX7_init_112, sX7_init_115, sX7_init_117, sX7_init_120, sX7_init_121, sX7_init_123, sX7_init_125, sX7_init_128, sX7_init_129, sX7_init_131, sX7_init_133, sX7_init_137, sX7_init_138, sX7_init_139, sX7_init_142, sX7_init_143, sX7_init_146, sX7_init_147, sX7_init_149, sX7_init_152, sX7_init_154, sX7_init_157, sX7_init_158, sX7_init_162, sX7_init_165, sX7_init_166, sX7_init_167, sX7_init_168, sX7_init_169, sX7_init_170, sX7_init_171, sX7_init_174, q2, q4, if_true, hp_o, pf_1, List.set_cons_zero, List.set_cons_succ]
      rw [← hx]
      conv => lhs; rw [← nI_un x]
      rw [wp_n, nI_un]
theorem ini_c {h0 : Nat → Option va_E} {m n : Nat} {z : Nat × Nat × Nat} {aN aS aB aU aH aD aX aM aW aI aT aA aK aL aF aP : Nat → Int32} (w1 : Value) : rn 94 161 [.ref m, w1] [] (hp h0 m 0 n 0 0 aN aS aB aU aH aD aX aM aW aI aT aA aK aL aF aP, z) = rn 94 171 [.ref m, w1] [.int 0, .int 1, .ref m] (hp h0 m 0 n 0 0 aN aS aB aU aH aD (upd aX 0 1) aM aW aI aT aA aK aL aF aP, z) := by
  rw [sX7_init_161]
  simp only [sX7_init_0, sX7_init_1, sX7_init_4, sX7_init_5, sX7_init_6, sX7_init_8, sX7_init_11, sX7_init_12, sX7_init_15, sX7_init_17, sX7_init_20, sX7_init_21, sX7_init_24, sX7_init_26, sX7_init_29, sX7_init_30, sX7_init_33, sX7_init_35, sX7_init_38, sX7_init_39, sX7_init_42, sX7_init_44, sX7_init_47, sX7_init_48, sX7_init_50, sX7_init_52, sX7_init_55, sX7_init_56, sX7_init_58, sX7_init_60, sX7_init_63, sX7_init_64, sX7_init_66, sX7_init_68, sX7_init_71, sX7_init_72, sX7_init_75, sX7_init_77, sX7_init_80, sX7_init_81, sX7_init_82, sX7_init_84, sX7_init_87, sX7_init_88, sX7_init_90, sX7_init_92, sX7_init_95, sX7_init_96, sX7_init_97, sX7_init_99, sX7_init_102, sX7_init_103, sX7_init_106, sX7_init_108, sX7_init_111, sX7_init_112, sX7_init_115, sX7_init_117, sX7_init_120, sX7_init_121, sX7_init_123, sX7_init_125, sX7_init_128, sX7_init_129, sX7_init_131, sX7_init_133, sX7_init_137, sX7_init_138, sX7_init_139, sX7_init_142, sX7_init_143, sX7_init_146, sX7_init_147, sX7_init_149, sX7_init_152, sX7_init_154, sX7_init_157, sX7_init_158, sX7_init_162, sX7_init_165, sX7_init_166, sX7_init_167, sX7_init_168, sX7_init_169, sX7_init_170, sX7_init_174, hp_o, hp_1, hp_2, hp_3, hp_4, hp_5, hp_6, hp_7, hp_8, hp_9, hp_10, hp_11, hp_12, hp_13, hp_14, hp_15, hp_16, wp_o, wp_j, wp_f, wp_1, wp_2, wp_3, wp_4, wp_5, wp_6, wp_7, wp_8, wp_9, wp_10, wp_11, wp_12, wp_13, wp_14, wp_15, wp_16, gf_0, pf_0, gf_1, pf_1, gf_2, pf_2, gf_3, pf_3, gf_4, pf_4, gf_5, pf_5, gf_6, pf_6, gf_7, pf_7, gf_8, pf_8, gf_9, pf_9, gf_10, pf_10, gf_11, pf_11, gf_12, pf_12, gf_13, pf_13, gf_14, pf_14, gf_15, pf_15, gf_16, pf_16, gf_17, pf_17, gf_18, pf_18, gf_19, pf_19, List.set_cons_zero, List.set_cons_succ, al_0, as_0, cl0, m8, m10, m12, m32, m40, m64, m400, m4800, bd_v, bi_v, Option.toList, List.cons_append, List.nil_append, List.length_cons, List.length_nil, Nat.reduceAdd, Nat.reduceLeDiff, ck_in, nI_add, nI_1, if_false, if_true, bs_0, nar1]
theorem ini_d {h0 : Nat → Option va_E} {m n : Nat} {z : Nat × Nat × Nat} {aN aS aB aU aH aD aX aM aW aI aT aA aK aL aF aP : Nat → Int32} (w1 : Value) : rn 94 171 [.ref m, w1] [.int 0, .int 1, .ref m] (hp h0 m 0 n 0 0 aN aS aB aU aH aD aX aM aW aI aT aA aK aL aF aP, z) = some (.inl none, (hp h0 m 0 n 0 0 (upd aN 1 (aN 0)) (cpy aS aS (400 * 0) (400 * 1) 400) (cpy aB aB (4800 * 0) (4800 * 1) 4800) (cpy aU aU (400 * 0) (400 * 1) 400) (cpy aH aH (400 * 0) (400 * 1) 400) (cpy aD aD (40 * 0) (40 * 1) 40) (cpy (narX aX) aX (40 * 0) (40 * 1) 40) (cpy aM aM (40 * 0) (40 * 1) 40) (cpy aW aW (400 * 0) (400 * 1) 400) (upd aI 1 (aI 0)) (cpy aT aT (32 * 0) (32 * 1) 32) (upd aA 1 (aA 0)) aK aL aF aP, z)) := by
  have cp := X_copy10 (h0 := h0) (z := z) (m := m) (n := n) (jl := 0) (fd := 0) (c := 0) (aN := aN) (aS := aS) (aB := aB) (aU := aU) (aH := aH) (aD := aD) (aX := aX) (aM := aM) (aW := aW) (aI := aI) (aT := aT) (aA := aA) (aK := aK) (aL := aL) (aF := aF) (aP := aP)
  rw [sX7_init_171 _ _ _ _ _ _ (Nat.zero_le _), cp]
  simp only [hp_o, ck_in, bd_v, Option.toList, List.nil_append, sX7_init_174]
theorem M_init {h : Nat → Option va_E} {m k t n : Nat} (x : Int32) (hx : npg x = n) (hm : h m = some (obj 7 [.int 0, .int 0, .null, .null, .null, .null, .null, .null, .null, .null, .null, .null, .null, .null, .null, .int 0, .null, .int 0, .null, .null])) : ∃ h', cl 94 [.ref m, .int x] (h, m + 1, k, t) = some (.inl none, (h', m + 17, k + 16, t + 22901)) ∧ MR h m n σ0 h' 0 := by
  obtain ⟨hn1, hn⟩ := npg_b x
  rw [hx] at hn1 hn
  have w := WF0 hn1 hn
  have r := Rl0_0 hn
  have e := (((ini_a (k := k) (t := t) x hm).trans (ini_b x hx)).trans (ini_c (.int x))).trans (ini_d (.int x))
  exact ⟨_, e, ⟨_, _, _, _, _, _, _, _, _, _, _, _, fun _ => 0, fun _ => 0, fun _ => 0, fun _ => 0, rfl, rfl, Rl.copy_ot (t := 1) (f := 0) (by omega) (by omega) (by omega) w r, Rl.copy_to (t := 1) (f := 0) (by omega) (by omega) (by omega) w r, fun _ _ => rfl, fun _ _ => rfl⟩⟩
