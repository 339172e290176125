/-! lay: fill appends a row -/
theorem fapp (N : Nat) (k24 : Int32 → Int32 → Int32 → Int32 → Int32 → St → Option (Int32 × St)) (k43 : Int32 → Int32 → Int32 → Int32 → Int32 → Int32 → St → Option (Int32 × St)) (k55 : Int32 → Int32 → Int32 → Int32 → Int32 → Int32 → Int32 → St → Option (Int32 × St)) (x1 x2 x3 x4 : Int32) {len x6 s m : Nat} {x8 : Int32} (hx6 : x6 < 13824) (hlen : len ≤ 3) (hs : s < 24) (hm : m < 13824) : ∀ (d i n : Nat) (σ : St), gi σ 18 = nI m → i + d = len → d < n → (∀ k, k < i → ga σ 26 (4 * m + k) = ga σ 25 (4 * x6 + k)) → ∃ σ2 : St, X7_fill_l182 N k24 k43 k55 n x1 x2 x3 x4 (nI len) (nI x6) (nI s) x8 (nI i) σ = k55 x1 x2 x3 x4 (nI len) (nI x6) (nI (s + 1)) σ2 ∧ (∀ k, k < len → ga σ2 26 (4 * m + k) = ga σ 25 (4 * x6 + k)) ∧ ga σ2 26 (4 * m + len) = nI s ∧ (∀ k, k < 4 * m → ga σ2 26 k = ga σ 26 k) ∧ ga σ2 28 m = x8 ∧ (∀ k, k < m → ga σ2 28 k = ga σ 28 k) ∧ gi σ2 18 = nI (m + 1) ∧ (∀ j, j ≠ 18 → gi σ2 j = gi σ j) ∧ (∀ a, a ≠ 26 → a ≠ 28 → ga σ2 a = ga σ a)
  | d, i, 0, _, _, _, h, _ => absurd h (by omega)
  | 0, i, n + 1, σ, h0, h1, h2, h3 => by
    obtain rfl : i = len := by omega
    refine ⟨si (sa (sa σ 26 (4 * m + i) (nI s)) 28 m x8) 18 (nI (m + 1)), ?_, fun k hk => ?_, ?_, fun k hk => ?_, ?_, fun k hk => ?_, rfl, fun j j1 => ?_, fun a a1 a2 => ?_⟩
    · rw [X7_fill_l182.eq_def]
      unfold X7_fill_l258
      simp (disch := omega) only [if_pos, if_neg, bnd_e, cal_e, chk_t, isZ_0, isZ_1, isZ_n0, isZ_n1, ald_n, ast_n, stb_n, litI, nI_add, pk_mul, pk_sub, Nat.add_sub_cancel, nar_0, nar_1, nI_leI, nI_ltI, nI_eq, Nat.not_lt_zero, Nat.le_zero_eq, Nat.zero_le, not_true_eq_false, not_false_eq_true, reduceIte, if_true, if_false, ite_self, Bool.false_eq_true, Nat.reduceEqDiff, Nat.reduceAdd, Nat.reduceMul, Nat.reduceSub, Nat.reduceLT, Nat.reduceLeDiff, Nat.reducePow, gi_si, gi_sg, gi_sa, gi_sl, ga_si, ga_sg2, ga_sa, ga_sl, gl_si, gl_sg, gl_sa, gl_sl, h0]
    · simp only [gi_si, gi_sg, gi_sa, gi_sl, ga_si, ga_sg2, ga_sa, ga_sl, gl_si, gl_sg, gl_sa, gl_sl, Nat.not_lt_zero, Nat.le_zero_eq, Nat.zero_le, not_true_eq_false, not_false_eq_true, reduceIte, if_true, if_false, ite_self, Bool.false_eq_true, Nat.reduceEqDiff, Nat.reduceAdd, Nat.reduceMul, Nat.reduceSub, Nat.reduceLT, Nat.reduceLeDiff, Nat.reducePow, upd_e]
      rw [if_neg (by omega)]
      exact h3 k hk
    · simp only [gi_si, gi_sg, gi_sa, gi_sl, ga_si, ga_sg2, ga_sa, ga_sl, gl_si, gl_sg, gl_sa, gl_sl, Nat.not_lt_zero, Nat.le_zero_eq, Nat.zero_le, not_true_eq_false, not_false_eq_true, reduceIte, if_true, if_false, ite_self, Bool.false_eq_true, Nat.reduceEqDiff, Nat.reduceAdd, Nat.reduceMul, Nat.reduceSub, Nat.reduceLT, Nat.reduceLeDiff, Nat.reducePow, upd_e]
    · simp only [gi_si, gi_sg, gi_sa, gi_sl, ga_si, ga_sg2, ga_sa, ga_sl, gl_si, gl_sg, gl_sa, gl_sl, Nat.not_lt_zero, Nat.le_zero_eq, Nat.zero_le, not_true_eq_false, not_false_eq_true, reduceIte, if_true, if_false, ite_self, Bool.false_eq_true, Nat.reduceEqDiff, Nat.reduceAdd, Nat.reduceMul, Nat.reduceSub, Nat.reduceLT, Nat.reduceLeDiff, Nat.reducePow, upd_e]
      rw [if_neg (by omega)]
    · simp only [gi_si, gi_sg, gi_sa, gi_sl, ga_si, ga_sg2, ga_sa, ga_sl, gl_si, gl_sg, gl_sa, gl_sl, Nat.not_lt_zero, Nat.le_zero_eq, Nat.zero_le, not_true_eq_false, not_false_eq_true, reduceIte, if_true, if_false, ite_self, Bool.false_eq_true, Nat.reduceEqDiff, Nat.reduceAdd, Nat.reduceMul, Nat.reduceSub, Nat.reduceLT, Nat.reduceLeDiff, Nat.reducePow, upd_e]
    · simp only [gi_si, gi_sg, gi_sa, gi_sl, ga_si, ga_sg2, ga_sa, ga_sl, gl_si, gl_sg, gl_sa, gl_sl, Nat.not_lt_zero, Nat.le_zero_eq, Nat.zero_le, not_true_eq_false, not_false_eq_true, reduceIte, if_true, if_false, ite_self, Bool.false_eq_true, Nat.reduceEqDiff, Nat.reduceAdd, Nat.reduceMul, Nat.reduceSub, Nat.reduceLT, Nat.reduceLeDiff, Nat.reducePow, upd_e]
      rw [if_neg (by omega)]
    · simp only [gi_si, gi_sa, j1, if_false]
    · simp only [ga_si, ga_sa, a1, a2, if_false]
  | d + 1, i, n + 1, σ, h0, h1, h2, h3 => by
    obtain ⟨σ2, a1, a2, a3, a4, a5, a6, a7, a8, a9⟩ := fapp N k24 k43 k55 x1 x2 x3 x4 (x8 := x8) hx6 hlen hs hm d (i + 1) n (sa σ 26 (4 * m + i) (ga σ 25 (4 * x6 + i))) h0 (by omega) (by omega) (fun k hk => by
      simp only [gi_si, gi_sg, gi_sa, gi_sl, ga_si, ga_sg2, ga_sa, ga_sl, gl_si, gl_sg, gl_sa, gl_sl, Nat.not_lt_zero, Nat.le_zero_eq, Nat.zero_le, not_true_eq_false, not_false_eq_true, reduceIte, if_true, if_false, ite_self, Bool.false_eq_true, Nat.reduceEqDiff, Nat.reduceAdd, Nat.reduceMul, Nat.reduceSub, Nat.reduceLT, Nat.reduceLeDiff, Nat.reducePow, upd_e]
      by_cases z : k = i
      · rw [if_pos (by omega), z]
      · rw [if_neg (by omega)]
        exact h3 k (by omega))
    refine ⟨σ2, ?_, a2, a3, fun k hk => ?_, a5, a6, a7, a8, fun a b1 b2 => ?_⟩
    · rw [← a1, X7_fill_l182.eq_def]
      simp (disch := omega) only [if_pos, if_neg, bnd_e, cal_e, chk_t, isZ_0, isZ_1, isZ_n0, isZ_n1, ald_n, ast_n, stb_n, litI, nI_add, pk_mul, pk_sub, Nat.add_sub_cancel, nar_0, nar_1, nI_leI, nI_ltI, nI_eq, Nat.not_lt_zero, Nat.le_zero_eq, Nat.zero_le, not_true_eq_false, not_false_eq_true, reduceIte, if_true, if_false, ite_self, Bool.false_eq_true, Nat.reduceEqDiff, Nat.reduceAdd, Nat.reduceMul, Nat.reduceSub, Nat.reduceLT, Nat.reduceLeDiff, Nat.reducePow, gi_si, gi_sg, gi_sa, gi_sl, ga_si, ga_sg2, ga_sa, ga_sl, gl_si, gl_sg, gl_sa, gl_sl, h0]
    · rw [a4 k hk]
      simp only [gi_si, gi_sg, gi_sa, gi_sl, ga_si, ga_sg2, ga_sa, ga_sl, gl_si, gl_sg, gl_sa, gl_sl, Nat.not_lt_zero, Nat.le_zero_eq, Nat.zero_le, not_true_eq_false, not_false_eq_true, reduceIte, if_true, if_false, ite_self, Bool.false_eq_true, Nat.reduceEqDiff, Nat.reduceAdd, Nat.reduceMul, Nat.reduceSub, Nat.reduceLT, Nat.reduceLeDiff, Nat.reducePow, upd_e]
      rw [if_neg (by omega)]
    · rw [a9 a b1 b2, ga_sa, if_neg b1]
