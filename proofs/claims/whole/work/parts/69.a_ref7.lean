theorem judge_c (N : Nat) {x1 s len : Nat} {x7 x8 : Int32} (hx1 : x1 < 13824) (hlen : len ≤ 3) : ∀ (d i n : Nat) (σ : St), i + d = len → d < n → (∀ k, k < i → ga σ 29 k = ga σ 25 (4 * x1 + k)) → ∃ σ2 : St, X7_judge_l165 N n (nI x1) (nI len) (nI s) x7 x8 (nI i) σ = some (nI 0, σ2) ∧ (∀ k, k < len → ga σ2 29 k = ga σ 25 (4 * x1 + k)) ∧ ga σ2 29 len = nI s ∧ gi σ2 19 = nI (len + 1) ∧ gi σ2 20 = x7 ∧ gi σ2 21 = x8 ∧ (∀ j, j ≠ 19 → j ≠ 20 → j ≠ 21 → gi σ2 j = gi σ j) ∧ (∀ a, a ≠ 29 → ga σ2 a = ga σ a)
  | d, i, 0, _, _, h, _ => absurd h (by omega)
  | 0, i, n + 1, σ, h1, h2, h3 => by
    obtain rfl : i = len := by omega
    refine ⟨si (si (si (sa σ 29 i (nI s)) 19 (nI (i + 1))) 20 x7) 21 x8, ?_, fun k hk => ?_, ?_, rfl, rfl, rfl, fun j j1 j2 j3 => ?_, fun a ha => ?_⟩
    · rw [X7_judge_l165.eq_def]
      simp (disch := omega) only [if_pos, if_neg, bnd_e, cal_e, chk_t, isZ_0, isZ_1, isZ_n0, isZ_n1, ald_n, ast_n, stb_n, litI, nI_add, pk_mul, pk_sub, Nat.add_sub_cancel, nar_0, nar_1, nI_leI, nI_ltI, nI_eq, Nat.not_lt_zero, Nat.le_zero_eq, Nat.zero_le, not_true_eq_false, not_false_eq_true, reduceIte, if_true, if_false, ite_self, Bool.false_eq_true, Nat.reduceEqDiff, Nat.reduceAdd, Nat.reduceMul, Nat.reduceSub, Nat.reduceLT, Nat.reduceLeDiff, Nat.reducePow, gi_si, gi_sg, gi_sa, gi_sl, ga_si, ga_sg2, ga_sa, ga_sl, gl_si, gl_sg, gl_sa, gl_sl]
    · simp only [gi_si, gi_sg, gi_sa, gi_sl, ga_si, ga_sg2, ga_sa, ga_sl, gl_si, gl_sg, gl_sa, gl_sl, Nat.not_lt_zero, Nat.le_zero_eq, Nat.zero_le, not_true_eq_false, not_false_eq_true, reduceIte, if_true, if_false, ite_self, Bool.false_eq_true, Nat.reduceEqDiff, Nat.reduceAdd, Nat.reduceMul, Nat.reduceSub, Nat.reduceLT, Nat.reduceLeDiff, Nat.reducePow, upd_e]
      rw [if_neg (by omega)]
      exact h3 k hk
    · simp only [gi_si, gi_sg, gi_sa, gi_sl, ga_si, ga_sg2, ga_sa, ga_sl, gl_si, gl_sg, gl_sa, gl_sl, Nat.not_lt_zero, Nat.le_zero_eq, Nat.zero_le, not_true_eq_false, not_false_eq_true, reduceIte, if_true, if_false, ite_self, Bool.false_eq_true, Nat.reduceEqDiff, Nat.reduceAdd, Nat.reduceMul, Nat.reduceSub, Nat.reduceLT, Nat.reduceLeDiff, Nat.reducePow, upd_e]
    · simp only [gi_si, gi_sa, j1, j2, j3, if_false]
    · simp only [ga_si, ga_sa, ha, if_false]
  | d + 1, i, n + 1, σ, h1, h2, h3 => by
    obtain ⟨σ2, a1, a2, a3, a4, a5, a6, a7, a8⟩ := judge_c N (s := s) (x7 := x7) (x8 := x8) hx1 hlen d (i + 1) n (sa σ 29 i (ga σ 25 (4 * x1 + i))) (by omega) (by omega) (fun k hk => by
      simp only [gi_si, gi_sg, gi_sa, gi_sl, ga_si, ga_sg2, ga_sa, ga_sl, gl_si, gl_sg, gl_sa, gl_sl, Nat.not_lt_zero, Nat.le_zero_eq, Nat.zero_le, not_true_eq_false, not_false_eq_true, reduceIte, if_true, if_false, ite_self, Bool.false_eq_true, Nat.reduceEqDiff, Nat.reduceAdd, Nat.reduceMul, Nat.reduceSub, Nat.reduceLT, Nat.reduceLeDiff, Nat.reducePow, upd_e]
      by_cases z : k = i
      · rw [if_pos z, z]
      · rw [if_neg z]
        exact h3 k (by omega))
    refine ⟨σ2, ?_, a2, a3, a4, a5, a6, a7, fun a ha => ?_⟩
    · rw [← a1, X7_judge_l165.eq_def]
      simp (disch := omega) only [if_pos, if_neg, bnd_e, cal_e, chk_t, isZ_0, isZ_1, isZ_n0, isZ_n1, ald_n, ast_n, stb_n, litI, nI_add, pk_mul, pk_sub, Nat.add_sub_cancel, nar_0, nar_1, nI_leI, nI_ltI, nI_eq, Nat.not_lt_zero, Nat.le_zero_eq, Nat.zero_le, not_true_eq_false, not_false_eq_true, reduceIte, if_true, if_false, ite_self, Bool.false_eq_true, Nat.reduceEqDiff, Nat.reduceAdd, Nat.reduceMul, Nat.reduceSub, Nat.reduceLT, Nat.reduceLeDiff, Nat.reducePow, gi_si, gi_sg, gi_sa, gi_sl, ga_si, ga_sg2, ga_sa, ga_sl, gl_si, gl_sg, gl_sa, gl_sl]
    · rw [a8 a ha, ga_sa, if_neg ha]
