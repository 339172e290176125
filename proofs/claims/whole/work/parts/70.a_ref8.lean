theorem fcopy1 (N : Nat) {m : Nat} (hm : m ≤ 13824) (kk : Int32 → Int32 → Int32 → Int32 → Int32 → St → Option (Int32 × St)) (x1 x2 x3 x4 x5 : Int32) : ∀ (d i n : Nat) (σ : St), gi σ 18 = nI m → i + d = 4 * m → d < n → (∀ k, k < i → ga σ 25 k = ga σ 26 k) → ∃ σ2 : St, X7_fill_l281 N kk n x1 x2 x3 x4 x5 (nI i) σ = X7_fill_l315 N kk N x1 x2 x3 x4 x5 (nI 0) σ2 ∧ (∀ k, k < 4 * m → ga σ2 25 k = ga σ 26 k) ∧ (∀ j, gi σ2 j = gi σ j) ∧ (∀ a, a ≠ 25 → ga σ2 a = ga σ a)
  | d, i, 0, _, _, _, h, _ => absurd h (by omega)
  | 0, i, n + 1, σ, h0, h1, h2, h3 => by
    refine ⟨σ, ?_, fun k hk => h3 k (by omega), fun _ => rfl, fun _ _ => rfl⟩
    rw [X7_fill_l281.eq_def]
    simp (disch := omega) only [if_pos, if_neg, bnd_e, cal_e, chk_t, isZ_0, isZ_1, isZ_n0, isZ_n1, ald_n, ast_n, stb_n, litI, nI_add, pk_mul, pk_sub, Nat.add_sub_cancel, nar_0, nar_1, nI_leI, nI_ltI, nI_eq, Nat.not_lt_zero, Nat.le_zero_eq, Nat.zero_le, not_true_eq_false, not_false_eq_true, reduceIte, if_true, if_false, ite_self, Bool.false_eq_true, Nat.reduceEqDiff, Nat.reduceAdd, Nat.reduceMul, Nat.reduceSub, Nat.reduceLT, Nat.reduceLeDiff, Nat.reducePow, gi_si, gi_sg, gi_sa, gi_sl, ga_si, ga_sg2, ga_sa, ga_sl, gl_si, gl_sg, gl_sa, gl_sl, h0]
  | d + 1, i, n + 1, σ, h0, h1, h2, h3 => by
    obtain ⟨σ2, a1, a2, a3, a4⟩ := fcopy1 N hm kk x1 x2 x3 x4 x5 d (i + 1) n (sa σ 25 i (ga σ 26 i)) h0 (by omega) (by omega) (fun k hk => by
      simp only [gi_si, gi_sg, gi_sa, gi_sl, ga_si, ga_sg2, ga_sa, ga_sl, gl_si, gl_sg, gl_sa, gl_sl, Nat.not_lt_zero, Nat.le_zero_eq, Nat.zero_le, not_true_eq_false, not_false_eq_true, reduceIte, if_true, if_false, ite_self, Bool.false_eq_true, Nat.reduceEqDiff, Nat.reduceAdd, Nat.reduceMul, Nat.reduceSub, Nat.reduceLT, Nat.reduceLeDiff, Nat.reducePow, upd_e]
      by_cases z : k = i
      · rw [if_pos z, z]
      · rw [if_neg z]
        exact h3 k (by omega))
    refine ⟨σ2, ?_, a2, a3, fun a ha => ?_⟩
    · rw [← a1, X7_fill_l281.eq_def]
      simp (disch := omega) only [if_pos, if_neg, bnd_e, cal_e, chk_t, isZ_0, isZ_1, isZ_n0, isZ_n1, ald_n, ast_n, stb_n, litI, nI_add, pk_mul, pk_sub, Nat.add_sub_cancel, nar_0, nar_1, nI_leI, nI_ltI, nI_eq, Nat.not_lt_zero, Nat.le_zero_eq, Nat.zero_le, not_true_eq_false, not_false_eq_true, reduceIte, if_true, if_false, ite_self, Bool.false_eq_true, Nat.reduceEqDiff, Nat.reduceAdd, Nat.reduceMul, Nat.reduceSub, Nat.reduceLT, Nat.reduceLeDiff, Nat.reducePow, gi_si, gi_sg, gi_sa, gi_sl, ga_si, ga_sg2, ga_sa, ga_sl, gl_si, gl_sg, gl_sa, gl_sl, h0]
    · rw [a4 a ha, ga_sa, if_neg ha]
