theorem copy_l (N : Nat) {j m : Nat} (hj : j < 6) (hm : m ≤ 8) : ∀ (d n i : Nat) (σ : St), ga σ 6 j = nI m → i + d = m → d < n → ∃ σ2 : St, X7_clock_l95 N n (nI j) (nI i) σ = some (nI m, σ2) ∧ (∀ q, gi σ2 q = gi σ q) ∧ (∀ a, a < 7 ∨ 10 ≤ a → ga σ2 a = ga σ a) ∧ (∀ q, q < 8 * j + i ∨ 8 * j + 8 ≤ q → ga σ2 7 q = ga σ 7 q ∧ ga σ2 8 q = ga σ 8 q ∧ ga σ2 9 q = ga σ 9 q) ∧ (∀ q, i ≤ q → q < m → ga σ2 7 (8 * j + q) = ga σ 7 (48 + q) ∧ ga σ2 8 (8 * j + q) = ga σ 8 (48 + q) ∧ ga σ2 9 (8 * j + q) = ga σ 9 (48 + q))
  | d, 0, _, _, _, _, h2 => absurd h2 (by omega)
  | 0, n + 1, i, σ, h0, h1, h2 => by
    refine ⟨σ, ?_, fun _ => rfl, fun _ _ => rfl, fun _ _ => ⟨rfl, rfl, rfl⟩, fun q q1 q2 => absurd q1 (by omega)⟩
    rw [X7_clock_l95.eq_def]
    simp (disch := omega) only [if_pos, if_neg, bnd_e, cal_e, chk_t, isZ_0, isZ_1, isZ_n0, isZ_n1, ald_n, ast_n, stb_n, litI, nI_add, pk_mul, pk_sub, Nat.add_sub_cancel, nar_0, nar_1, nI_leI, nI_ltI, nI_eq, Nat.not_lt_zero, Nat.le_zero_eq, Nat.zero_le, not_true_eq_false, not_false_eq_true, reduceIte, if_true, if_false, ite_self, Bool.false_eq_true, Nat.reduceEqDiff, Nat.reduceAdd, Nat.reduceMul, Nat.reduceSub, Nat.reduceLT, Nat.reduceLeDiff, Nat.reducePow, gi_si, gi_sg, gi_sa, gi_sl, ga_si, ga_sg2, ga_sa, ga_sl, gl_si, gl_sg, gl_sa, gl_sl, h0]
  | d + 1, n + 1, i, σ, h0, h1, h2 => by
    obtain ⟨σ2, a1, a2, a3, a4, a5⟩ := copy_l N hj hm d n (i + 1) (sa (sa (sa σ 7 (8 * j + i) (ga σ 7 (48 + i))) 8 (8 * j + i) (ga σ 8 (48 + i))) 9 (8 * j + i) (ga σ 9 (48 + i))) h0 (by omega) (by omega)
    refine ⟨σ2, ?_, fun q => a2 q, fun a ha => ?_, fun q hq => ?_, fun q q1 q2 => ?_⟩
    · rw [← a1, X7_clock_l95.eq_def]
      simp (disch := omega) only [if_pos, if_neg, bnd_e, cal_e, chk_t, isZ_0, isZ_1, isZ_n0, isZ_n1, ald_n, ast_n, stb_n, litI, nI_add, pk_mul, pk_sub, Nat.add_sub_cancel, nar_0, nar_1, nI_leI, nI_ltI, nI_eq, Nat.not_lt_zero, Nat.le_zero_eq, Nat.zero_le, not_true_eq_false, not_false_eq_true, reduceIte, if_true, if_false, ite_self, Bool.false_eq_true, Nat.reduceEqDiff, Nat.reduceAdd, Nat.reduceMul, Nat.reduceSub, Nat.reduceLT, Nat.reduceLeDiff, Nat.reducePow, gi_si, gi_sg, gi_sa, gi_sl, ga_si, ga_sg2, ga_sa, ga_sl, gl_si, gl_sg, gl_sa, gl_sl, h0]
    · rw [a3 a ha]
      simp (disch := omega) only [ga_sa, if_neg]
    · obtain ⟨b1, b2, b3⟩ := a4 q (by omega)
      rw [b1, b2, b3]
      refine ⟨?_, ?_, ?_⟩
      · simp only [gi_si, gi_sg, gi_sa, gi_sl, ga_si, ga_sg2, ga_sa, ga_sl, gl_si, gl_sg, gl_sa, gl_sl, Nat.not_lt_zero, Nat.le_zero_eq, Nat.zero_le, not_true_eq_false, not_false_eq_true, reduceIte, if_true, if_false, ite_self, Bool.false_eq_true, Nat.reduceEqDiff, Nat.reduceAdd, Nat.reduceMul, Nat.reduceSub, Nat.reduceLT, Nat.reduceLeDiff, Nat.reducePow, upd_e]
        rw [if_neg (by omega)]
      · simp only [gi_si, gi_sg, gi_sa, gi_sl, ga_si, ga_sg2, ga_sa, ga_sl, gl_si, gl_sg, gl_sa, gl_sl, Nat.not_lt_zero, Nat.le_zero_eq, Nat.zero_le, not_true_eq_false, not_false_eq_true, reduceIte, if_true, if_false, ite_self, Bool.false_eq_true, Nat.reduceEqDiff, Nat.reduceAdd, Nat.reduceMul, Nat.reduceSub, Nat.reduceLT, Nat.reduceLeDiff, Nat.reducePow, upd_e]
        rw [if_neg (by omega)]
      · simp only [gi_si, gi_sg, gi_sa, gi_sl, ga_si, ga_sg2, ga_sa, ga_sl, gl_si, gl_sg, gl_sa, gl_sl, Nat.not_lt_zero, Nat.le_zero_eq, Nat.zero_le, not_true_eq_false, not_false_eq_true, reduceIte, if_true, if_false, ite_self, Bool.false_eq_true, Nat.reduceEqDiff, Nat.reduceAdd, Nat.reduceMul, Nat.reduceSub, Nat.reduceLT, Nat.reduceLeDiff, Nat.reducePow, upd_e]
        rw [if_neg (by omega)]
    · by_cases z : q = i
      · subst z
        obtain ⟨b1, b2, b3⟩ := a4 (8 * j + q) (by omega)
        rw [b1, b2, b3]
        refine ⟨?_, ?_, ?_⟩
        · simp only [gi_si, gi_sg, gi_sa, gi_sl, ga_si, ga_sg2, ga_sa, ga_sl, gl_si, gl_sg, gl_sa, gl_sl, Nat.not_lt_zero, Nat.le_zero_eq, Nat.zero_le, not_true_eq_false, not_false_eq_true, reduceIte, if_true, if_false, ite_self, Bool.false_eq_true, Nat.reduceEqDiff, Nat.reduceAdd, Nat.reduceMul, Nat.reduceSub, Nat.reduceLT, Nat.reduceLeDiff, Nat.reducePow, upd_e]
        · simp only [gi_si, gi_sg, gi_sa, gi_sl, ga_si, ga_sg2, ga_sa, ga_sl, gl_si, gl_sg, gl_sa, gl_sl, Nat.not_lt_zero, Nat.le_zero_eq, Nat.zero_le, not_true_eq_false, not_false_eq_true, reduceIte, if_true, if_false, ite_self, Bool.false_eq_true, Nat.reduceEqDiff, Nat.reduceAdd, Nat.reduceMul, Nat.reduceSub, Nat.reduceLT, Nat.reduceLeDiff, Nat.reducePow, upd_e]
        · simp only [gi_si, gi_sg, gi_sa, gi_sl, ga_si, ga_sg2, ga_sa, ga_sl, gl_si, gl_sg, gl_sa, gl_sl, Nat.not_lt_zero, Nat.le_zero_eq, Nat.zero_le, not_true_eq_false, not_false_eq_true, reduceIte, if_true, if_false, ite_self, Bool.false_eq_true, Nat.reduceEqDiff, Nat.reduceAdd, Nat.reduceMul, Nat.reduceSub, Nat.reduceLT, Nat.reduceLeDiff, Nat.reducePow, upd_e]
      · obtain ⟨b1, b2, b3⟩ := a5 q (by omega) q2
        rw [b1, b2, b3]
        refine ⟨?_, ?_, ?_⟩
        · simp only [gi_si, gi_sg, gi_sa, gi_sl, ga_si, ga_sg2, ga_sa, ga_sl, gl_si, gl_sg, gl_sa, gl_sl, Nat.not_lt_zero, Nat.le_zero_eq, Nat.zero_le, not_true_eq_false, not_false_eq_true, reduceIte, if_true, if_false, ite_self, Bool.false_eq_true, Nat.reduceEqDiff, Nat.reduceAdd, Nat.reduceMul, Nat.reduceSub, Nat.reduceLT, Nat.reduceLeDiff, Nat.reducePow, upd_e]
          rw [if_neg (by omega)]
        · simp only [gi_si, gi_sg, gi_sa, gi_sl, ga_si, ga_sg2, ga_sa, ga_sl, gl_si, gl_sg, gl_sa, gl_sl, Nat.not_lt_zero, Nat.le_zero_eq, Nat.zero_le, not_true_eq_false, not_false_eq_true, reduceIte, if_true, if_false, ite_self, Bool.false_eq_true, Nat.reduceEqDiff, Nat.reduceAdd, Nat.reduceMul, Nat.reduceSub, Nat.reduceLT, Nat.reduceLeDiff, Nat.reducePow, upd_e]
          rw [if_neg (by omega)]
        · simp only [gi_si, gi_sg, gi_sa, gi_sl, ga_si, ga_sg2, ga_sa, ga_sl, gl_si, gl_sg, gl_sa, gl_sl, Nat.not_lt_zero, Nat.le_zero_eq, Nat.zero_le, not_true_eq_false, not_false_eq_true, reduceIte, if_true, if_false, ite_self, Bool.false_eq_true, Nat.reduceEqDiff, Nat.reduceAdd, Nat.reduceMul, Nat.reduceSub, Nat.reduceLT, Nat.reduceLeDiff, Nat.reducePow, upd_e]
          rw [if_neg (by omega)]
def aX (σ : St) : St := si (si (si (si (si (si (si σ 45 (nI 0)) 46 (nI 0)) 47 (nI 0)) 5 (nI 240)) 1 (nI 0)) 2 (nI 0)) 7 (nI 0)
theorem readc_x (N : Nat) (σ σ2 : St) (h : X5_step_f N (aX σ) = some (nI 0, σ2)) : X0_read_f N σ = X0_read_l24 N N (nI 0) σ2 := by
  unfold aX at h
  unfold X0_read_f X5_start_f
  simp (disch := omega) only [if_pos, if_neg, bnd_e, cal_e, chk_t, isZ_0, isZ_1, isZ_n0, isZ_n1, ald_n, ast_n, stb_n, litI, nI_add, pk_mul, pk_sub, Nat.add_sub_cancel, nar_0, nar_1, nI_leI, nI_ltI, nI_eq, Nat.not_lt_zero, Nat.le_zero_eq, Nat.zero_le, not_true_eq_false, not_false_eq_true, reduceIte, if_true, if_false, ite_self, Bool.false_eq_true, Nat.reduceEqDiff, Nat.reduceAdd, Nat.reduceMul, Nat.reduceSub, Nat.reduceLT, Nat.reduceLeDiff, Nat.reducePow, gi_si, gi_sg, gi_sa, gi_sl, ga_si, ga_sg2, ga_sa, ga_sl, gl_si, gl_sg, gl_sa, gl_sl, h]
theorem readc_m (N : Nat) {j : Nat} (hj : j < 6) (σ σ2 : St) (h : X7_go_f N (bM σ 240) = some (nI 0, σ2)) : X7_clock_f N (nI j) σ = X7_clock_l37 N N (nI j) (si (sa σ2 6 6 (nI 0)) 11 (nI 0)) := by
  unfold bM at h
  unfold X7_clock_f X7_begins_f
  rw [(x_isClock1 N hj σ).2]
  simp (disch := omega) only [if_pos, if_neg, bnd_e, cal_e, chk_t, isZ_0, isZ_1, isZ_n0, isZ_n1, ald_n, ast_n, stb_n, litI, nI_add, pk_mul, pk_sub, Nat.add_sub_cancel, nar_0, nar_1, nI_leI, nI_ltI, nI_eq, Nat.not_lt_zero, Nat.le_zero_eq, Nat.zero_le, not_true_eq_false, not_false_eq_true, reduceIte, if_true, if_false, ite_self, Bool.false_eq_true, Nat.reduceEqDiff, Nat.reduceAdd, Nat.reduceMul, Nat.reduceSub, Nat.reduceLT, Nat.reduceLeDiff, Nat.reducePow, gi_si, gi_sg, gi_sa, gi_sl, ga_si, ga_sg2, ga_sa, ga_sl, gl_si, gl_sg, gl_sa, gl_sl, h]
