theorem fcopy2 (N : Nat) {m x5 : Nat} (hm : m ≤ 13824) (hx : x5 ≤ 4) (kk : Int32 → Int32 → Int32 → Int32 → Int32 → St → Option (Int32 × St)) (x1 x2 x3 x4 : Int32) : ∀ (d i n : Nat) (σ : St), gi σ 18 = nI m → i + d = m → d < n → (∀ k, k < i → ga σ 27 k = ga σ 28 k) → ∃ σ2 : St, X7_fill_l315 N kk n x1 x2 x3 x4 (nI x5) (nI i) σ = kk x1 x2 x3 x4 (nI (x5 + 1)) σ2 ∧ (∀ k, k < m → ga σ2 27 k = ga σ 28 k) ∧ (∀ j, gi σ2 j = gi σ j) ∧ (∀ a, a ≠ 27 → ga σ2 a = ga σ a)
  | d, i, 0, _, _, _, h, _ => absurd h (by omega)
  | 0, i, n + 1, σ, h0, h1, h2, h3 => by
    refine ⟨σ, ?_, fun k hk => h3 k (by omega), fun _ => rfl, fun _ _ => rfl⟩
    rw [X7_fill_l315.eq_def]
    simp (disch := omega) only [if_pos, if_neg, bnd_e, cal_e, chk_t, isZ_0, isZ_1, isZ_n0, isZ_n1, ald_n, ast_n, stb_n, litI, nI_add, pk_mul, pk_sub, Nat.add_sub_cancel, nar_0, nar_1, nI_leI, nI_ltI, nI_eq, Nat.not_lt_zero, Nat.le_zero_eq, Nat.zero_le, not_true_eq_false, not_false_eq_true, reduceIte, if_true, if_false, ite_self, Bool.false_eq_true, Nat.reduceEqDiff, Nat.reduceAdd, Nat.reduceMul, Nat.reduceSub, Nat.reduceLT, Nat.reduceLeDiff, Nat.reducePow, gi_si, gi_sg, gi_sa, gi_sl, ga_si, ga_sg2, ga_sa, ga_sl, gl_si, gl_sg, gl_sa, gl_sl, h0]
  | d + 1, i, n + 1, σ, h0, h1, h2, h3 => by
    obtain ⟨σ2, a1, a2, a3, a4⟩ := fcopy2 N hm hx kk x1 x2 x3 x4 d (i + 1) n (sa σ 27 i (ga σ 28 i)) h0 (by omega) (by omega) (fun k hk => by
      simp only [gi_si, gi_sg, gi_sa, gi_sl, ga_si, ga_sg2, ga_sa, ga_sl, gl_si, gl_sg, gl_sa, gl_sl, Nat.not_lt_zero, Nat.le_zero_eq, Nat.zero_le, not_true_eq_false, not_false_eq_true, reduceIte, if_true, if_false, ite_self, Bool.false_eq_true, Nat.reduceEqDiff, Nat.reduceAdd, Nat.reduceMul, Nat.reduceSub, Nat.reduceLT, Nat.reduceLeDiff, Nat.reducePow, upd_e]
      by_cases z : k = i
      · rw [if_pos z, z]
      · rw [if_neg z]
        exact h3 k (by omega))
    refine ⟨σ2, ?_, a2, a3, fun a ha => ?_⟩
    · rw [← a1, X7_fill_l315.eq_def]
      simp (disch := omega) only [if_pos, if_neg, bnd_e, cal_e, chk_t, isZ_0, isZ_1, isZ_n0, isZ_n1, ald_n, ast_n, stb_n, litI, nI_add, pk_mul, pk_sub, Nat.add_sub_cancel, nar_0, nar_1, nI_leI, nI_ltI, nI_eq, Nat.not_lt_zero, Nat.le_zero_eq, Nat.zero_le, not_true_eq_false, not_false_eq_true, reduceIte, if_true, if_false, ite_self, Bool.false_eq_true, Nat.reduceEqDiff, Nat.reduceAdd, Nat.reduceMul, Nat.reduceSub, Nat.reduceLT, Nat.reduceLeDiff, Nat.reducePow, gi_si, gi_sg, gi_sa, gi_sl, ga_si, ga_sg2, ga_sa, ga_sl, gl_si, gl_sg, gl_sa, gl_sl, h0]
    · rw [a4 a ha, ga_sa, if_neg ha]
